/-! ===== a lemma an instruction (written by wip/ops.py) ===== -/
theorem va_rf_s (a : Nat) : va_rf (some a) = .ref a := rfl
theorem va_rf_n : va_rf none = .null := rfl
theorem ls_0 {v x : Value} {l : AL} : lset1 (v :: l) 0 x = x :: l := rfl
theorem ls_1i {y : Int32} {w x : Value} {l : AL} : lset1 (.int y :: w :: l) 1 x = .int y :: x :: l := rfl
theorem ls_1r {y : Nat} {w x : Value} {l : AL} : lset1 (.ref y :: w :: l) 1 x = .ref y :: x :: l := rfl
theorem ls_1n {w x : Value} {l : AL} : lset1 (.null :: w :: l) 1 x = .null :: x :: l := rfl
theorem ls_1j {w x : Value} {l : AL} : lset1 (.retAddr 0 :: w :: l) 1 x = .retAddr 0 :: x :: l := rfl
theorem ls_1l {y : Int64} {w x : Value} {l : AL} : lset1 (.long y :: w :: l) 1 x = .retAddr 0 :: x :: l := rfl
theorem ls_S {v w x : Value} {l : AL} {k : Nat} : lset1 (v :: w :: l) (k + 2) x = v :: lset1 (w :: l) (k + 1) x := by
  unfold lset1 lclr
  simp only [show k + 2 - 1 = k + 1 from rfl, show k + 1 - 1 = k from rfl, List.getElem?_cons_succ]
  by_cases h : (w :: l)[k]?.map Value.category = some 2
  · rw [if_pos ⟨by omega, h⟩, if_pos ⟨by omega, h⟩]; rfl
  · rw [if_neg (fun z => h z.2), if_neg (fun z => h z.2)]; rfl
theorem l2_0 {v w x : Value} {l : AL} : lset2 (v :: w :: l) 0 x = x :: .retAddr 0 :: l := rfl
theorem l2_1i {y : Int32} {u w x : Value} {l : AL} : lset2 (.int y :: u :: w :: l) 1 x = .int y :: x :: .retAddr 0 :: l := rfl
theorem l2_1r {y : Nat} {u w x : Value} {l : AL} : lset2 (.ref y :: u :: w :: l) 1 x = .ref y :: x :: .retAddr 0 :: l := rfl
theorem l2_1j {u w x : Value} {l : AL} : lset2 (.retAddr 0 :: u :: w :: l) 1 x = .retAddr 0 :: x :: .retAddr 0 :: l := rfl
theorem l2_1l {y : Int64} {u w x : Value} {l : AL} : lset2 (.long y :: u :: w :: l) 1 x = .retAddr 0 :: x :: .retAddr 0 :: l := rfl
theorem l2_S {v w x : Value} {l : AL} {k : Nat} : lset2 (v :: w :: l) (k + 2) x = v :: lset2 (w :: l) (k + 1) x := by
  unfold lset2
  have h : ((lclr (v :: w :: l) (k + 2)).set (k + 2) x) = v :: ((lclr (w :: l) (k + 1)).set (k + 1) x) := ls_S
  rw [h]; rfl
theorem ls_2 {v w x : Value} {l : AL} : lset1 (v :: w :: l) 2 x = v :: lset1 (w :: l) 1 x := ls_S
theorem l2_2 {v w x : Value} {l : AL} : lset2 (v :: w :: l) 2 x = v :: lset2 (w :: l) 1 x := l2_S
theorem ls_3 {v w x : Value} {l : AL} : lset1 (v :: w :: l) 3 x = v :: lset1 (w :: l) 2 x := ls_S
theorem l2_3 {v w x : Value} {l : AL} : lset2 (v :: w :: l) 3 x = v :: lset2 (w :: l) 2 x := l2_S
theorem ls_4 {v w x : Value} {l : AL} : lset1 (v :: w :: l) 4 x = v :: lset1 (w :: l) 3 x := ls_S
theorem l2_4 {v w x : Value} {l : AL} : lset2 (v :: w :: l) 4 x = v :: lset2 (w :: l) 3 x := l2_S
theorem ls_5 {v w x : Value} {l : AL} : lset1 (v :: w :: l) 5 x = v :: lset1 (w :: l) 4 x := ls_S
theorem l2_5 {v w x : Value} {l : AL} : lset2 (v :: w :: l) 5 x = v :: lset2 (w :: l) 4 x := l2_S
theorem ls_6 {v w x : Value} {l : AL} : lset1 (v :: w :: l) 6 x = v :: lset1 (w :: l) 5 x := ls_S
theorem l2_6 {v w x : Value} {l : AL} : lset2 (v :: w :: l) 6 x = v :: lset2 (w :: l) 5 x := l2_S
theorem ls_7 {v w x : Value} {l : AL} : lset1 (v :: w :: l) 7 x = v :: lset1 (w :: l) 6 x := ls_S
theorem l2_7 {v w x : Value} {l : AL} : lset2 (v :: w :: l) 7 x = v :: lset2 (w :: l) 6 x := l2_S
theorem ls_8 {v w x : Value} {l : AL} : lset1 (v :: w :: l) 8 x = v :: lset1 (w :: l) 7 x := ls_S
theorem l2_8 {v w x : Value} {l : AL} : lset2 (v :: w :: l) 8 x = v :: lset2 (w :: l) 7 x := l2_S
theorem ls_9 {v w x : Value} {l : AL} : lset1 (v :: w :: l) 9 x = v :: lset1 (w :: l) 8 x := ls_S
theorem l2_9 {v w x : Value} {l : AL} : lset2 (v :: w :: l) 9 x = v :: lset2 (w :: l) 8 x := l2_S
theorem ls_10 {v w x : Value} {l : AL} : lset1 (v :: w :: l) 10 x = v :: lset1 (w :: l) 9 x := ls_S
theorem l2_10 {v w x : Value} {l : AL} : lset2 (v :: w :: l) 10 x = v :: lset2 (w :: l) 9 x := l2_S
theorem ls_11 {v w x : Value} {l : AL} : lset1 (v :: w :: l) 11 x = v :: lset1 (w :: l) 10 x := ls_S
theorem l2_11 {v w x : Value} {l : AL} : lset2 (v :: w :: l) 11 x = v :: lset2 (w :: l) 10 x := l2_S
theorem ls_12 {v w x : Value} {l : AL} : lset1 (v :: w :: l) 12 x = v :: lset1 (w :: l) 11 x := ls_S
theorem l2_12 {v w x : Value} {l : AL} : lset2 (v :: w :: l) 12 x = v :: lset2 (w :: l) 11 x := l2_S
theorem ev_sqb {d e : Nat} {a c : AT} {st : AS} : ev d (sq (bk e a) c) st = seqR (ev d c) (blkR (ev d a st)) := by rw [ev_sq, ev_bk]
theorem leaf_s {c : CF} {i : Instr} {ds : List Nat} {l s : AL} {h : AH} {q : AL × AL} (e : sop i l s = some q) : leafR c i ds (l, s, h) = some (.inl 0, q.1, q.2, h) := by unfold leafR; simp only [e]
theorem leaf_h {c : CF} {i : Instr} {ds : List Nat} {l s : AL} {h : AH} {z1 : AL} {z2 : AH} (e0 : sop i l s = none) (e : hop i ds s h = some (z1, z2)) : leafR c i ds (l, s, h) = some (.inl 0, l, z1, z2) := by unfold leafR; simp only [e0, e]
theorem leaf_c {c : CF} {i : Instr} {ds : List Nat} {l s : AL} {h : AH} (e0 : sop i l s = none) (e : hop i ds s h = none) : leafR c i ds (l, s, h) = ctlR c i ds (l, s, h) := by unfold leafR; simp only [e0, e]
theorem ctl_jv {c : CF} {i y : Nat} {l s : AL} {h : AH} {z1 : AL} {z2 : AH} (e : jdkO y s h = some (z1, z2)) : ctlR c (.invokevirtual i) [y] (l, s, h) = some (.inl 0, l, z1, z2) := by unfold ctlR; simp only [e]
theorem ctl_js {c : CF} {i y : Nat} {l s : AL} {h : AH} {z1 : AL} {z2 : AH} (e : jdkO y s h = some (z1, z2)) : ctlR c (.invokestatic i) [y] (l, s, h) = some (.inl 0, l, z1, z2) := by unfold ctlR; simp only [e]
theorem ctl_jp {c : CF} {i y : Nat} {l s : AL} {h : AH} {z1 : AL} {z2 : AH} (e : jdkO y s h = some (z1, z2)) : ctlR c (.invokespecial i) [y] (l, s, h) = some (.inl 0, l, z1, z2) := by unfold ctlR; simp only [e]
theorem fa_le_nlt (a b : Int32) : (a ≤ b) = ¬ b < a := propext Int32.not_lt.symm
theorem gf_I {d : Nat} {M : MM} {a i ci k : Nat} {l s : AL} (hc : cl M a = ci) (hi : ci < 10) (hk : k < clN ci) (hx : isI ci k = true) : ev d (lf (.getfield i) [ci, k]) (l, .ref a :: s, toH M) = some (.inl 0, l, .int (fi M a k) :: s, toH M) := by
  rw [ev_lf]
  have e : gfO [ci, k] (.ref a :: s) (toH M) = some (.int (fi M a k) :: s, toH M) := by
    unfold gfO
    simp only [oAt_t hc hi, if_true, List.getElem?_map, List.getElem?_range hk, Option.map_some, fld_I hx]
  exact leaf_h (by rfl) (by exact e)
theorem gf_R {d : Nat} {M : MM} {a i ci k : Nat} {l s : AL} (hc : cl M a = ci) (hi : ci < 10) (hk : k < clN ci) (hx : isI ci k = false) : ev d (lf (.getfield i) [ci, k]) (l, .ref a :: s, toH M) = some (.inl 0, l, va_rf (fr M a k) :: s, toH M) := by
  rw [ev_lf]
  have e : gfO [ci, k] (.ref a :: s) (toH M) = some (va_rf (fr M a k) :: s, toH M) := by
    unfold gfO
    simp only [oAt_t hc hi, if_true, List.getElem?_map, List.getElem?_range hk, Option.map_some, fld_R hx]
  exact leaf_h (by rfl) (by exact e)
theorem pf_I {d : Nat} {M : MM} {a i ci k : Nat} {x : Int32} {l s : AL} (hc : cl M a = ci) (hi : ci < 10) (hk : k < clN ci) (hx : isI ci k = true) (ho : clTy ci k = .int) : ev d (lf (.putfield i) [ci, k]) (l, .int x :: .ref a :: s, toH M) = some (.inl 0, l, s, toH (setI M a k x)) := by
  rw [ev_lf]
  have e : pfO [ci, k] (.int x :: .ref a :: s) (toH M) = some (s, toH (setI M a k x)) := by
    unfold pfO
    simp only [oAt_t hc hi]
    rw [if_pos ⟨trivial, by simpa using hk, by rw [ho]; rfl⟩, hput_I hc hi hx]
  exact leaf_h (by rfl) (by exact e)
theorem pf_R {d : Nat} {M : MM} {a i ci k x : Nat} {l s : AL} (hc : cl M a = ci) (hi : ci < 10) (hk : k < clN ci) (hx : isI ci k = false) (ho : okF (clTy ci k) (.ref 0) = true) : ev d (lf (.putfield i) [ci, k]) (l, .ref x :: .ref a :: s, toH M) = some (.inl 0, l, s, toH (setR M a k (some x))) := by
  rw [ev_lf]
  have ho2 : okF (clTy ci k) (.ref x) = true := by
    revert ho
    cases clTy ci k <;> exact id
  have e : pfO [ci, k] (.ref x :: .ref a :: s) (toH M) = some (s, toH (setR M a k (some x))) := by
    unfold pfO
    simp only [oAt_t hc hi]
    rw [if_pos ⟨trivial, by simpa using hk, ho2⟩]
    exact congrArg (fun z => some (s, z)) (hput_R (x := some x) hc hi hx)
  exact leaf_h (by rfl) (by exact e)
theorem ix_ok {j n : Nat} (hj : j < n) (hb : j < 2 ^ 31) : ¬ (nI j < 0 ∨ n ≤ (nI j).toNatClampNeg) := by
  rw [nI_clamp hb]
  exact fun z => z.elim (fun z => nI_pos hb z) (fun z => by omega)
theorem ld_I {d : Nat} {M : MM} {a j : Nat} {l s : AL} (hc : cl M a = 20) (hj : j < ln M a) (hb : j < 2 ^ 31) : ev d (lf .iaload []) (l, .int (nI j) :: .ref a :: s, toH M) = some (.inl 0, l, .int (ai M a j) :: s, toH M) := by
  rw [ev_lf]
  have e : ialO (.int (nI j) :: .ref a :: s) (toH M) = some (.int (ai M a j) :: s, toH M) := by
    unfold ialO
    simp only [scAt_n hc (by decide), iAt_t hc]
    rw [if_neg (ix_ok hj hb), nI_clamp hb]
  exact leaf_h (by rfl) (by exact e)
theorem ld_S {d : Nat} {M : MM} {j : Nat} {l s : AL} (hj : j < sL M) (hb : j < 2 ^ 31) : ev d (lf .iaload []) (l, .int (nI j) :: .ref 2000000 :: s, toH M) = some (.inl 0, l, .int (sX M j) :: s, toH M) := by
  rw [ev_lf]
  have e : ialO (.int (nI j) :: .ref 2000000 :: s) (toH M) = some (.int (sX M j) :: s, toH M) := by
    unfold ialO
    simp only [scAt_t]
    rw [if_neg (ix_ok hj hb), nI_clamp hb]
  exact leaf_h (by rfl) (by exact e)
theorem ld_B {d : Nat} {M : MM} {a j : Nat} {l s : AL} (hc : cl M a = 22) (hj : j < ln M a) (hb : j < 2 ^ 31) : ev d (lf .baload []) (l, .int (nI j) :: .ref a :: s, toH M) = some (.inl 0, l, .int (ai M a j) :: s, toH M) := by
  rw [ev_lf]
  have e : balO (.int (nI j) :: .ref a :: s) (toH M) = some (.int (ai M a j) :: s, toH M) := by
    unfold balO
    simp only [bAt_t hc]
    rw [if_neg (ix_ok hj hb), nI_clamp hb]
  exact leaf_h (by rfl) (by exact e)
theorem ld_L {d : Nat} {M : MM} {a j : Nat} {l s : AL} (hc : cl M a = 21) (hj : j < ln M a) (hb : j < 2 ^ 31) : ev d (lf .laload []) (l, .int (nI j) :: .ref a :: s, toH M) = some (.inl 0, l, .long (al M a j) :: s, toH M) := by
  rw [ev_lf]
  have e : lalO (.int (nI j) :: .ref a :: s) (toH M) = some (.long (al M a j) :: s, toH M) := by
    unfold lalO
    simp only [lAt_t hc]
    rw [if_neg (ix_ok hj hb), nI_clamp hb]
  exact leaf_h (by rfl) (by exact e)
theorem ld_Q {d : Nat} {M : MM} {a j : Nat} {l s : AL} (hc : cl M a = 23 ∨ cl M a = 24) (hj : j < ln M a) (hb : j < 2 ^ 31) : ev d (lf .aaload []) (l, .int (nI j) :: .ref a :: s, toH M) = some (.inl 0, l, va_rf (aq M a j) :: s, toH M) := by
  rw [ev_lf]
  have e : aalO (.int (nI j) :: .ref a :: s) (toH M) = some (va_rf (aq M a j) :: s, toH M) := by
    unfold aalO
    rcases hc with hc | hc
    · simp only [qAt_t3 hc]
      rw [if_neg (ix_ok hj hb), nI_clamp hb]
    · simp only [qAt_t4 hc]
      rw [if_neg (ix_ok hj hb), nI_clamp hb]
  exact leaf_h (by rfl) (by exact e)
theorem st_I {d : Nat} {M : MM} {a j : Nat} {x : Int32} {l s : AL} (hc : cl M a = 20) (hj : j < ln M a) (hb : j < 2 ^ 31) : ev d (lf .iastore []) (l, .int x :: .int (nI j) :: .ref a :: s, toH M) = some (.inl 0, l, s, toH (setA M a (upd (ai M a) j x))) := by
  rw [ev_lf]
  have e : iasO (.int x :: .int (nI j) :: .ref a :: s) (toH M) = some (s, toH (setA M a (upd (ai M a) j x))) := by
    unfold iasO
    simp only [iAt_t hc]
    rw [if_neg (ix_ok hj hb), nI_clamp hb, hput_A hc]
  exact leaf_h (by rfl) (by exact e)
theorem st_B {d : Nat} {M : MM} {a j : Nat} {x : Int32} {l s : AL} (hc : cl M a = 22) (hj : j < ln M a) (hb : j < 2 ^ 31) : ev d (lf .bastore []) (l, .int x :: .int (nI j) :: .ref a :: s, toH M) = some (.inl 0, l, s, toH (setA M a (upd (ai M a) j x.toInt8.toInt32))) := by
  rw [ev_lf]
  have e : basO (.int x :: .int (nI j) :: .ref a :: s) (toH M) = some (s, toH (setA M a (upd (ai M a) j x.toInt8.toInt32))) := by
    unfold basO
    simp only [bAt_t hc]
    rw [if_neg (ix_ok hj hb), nI_clamp hb, hput_B hc]
  exact leaf_h (by rfl) (by exact e)
theorem st_L {d : Nat} {M : MM} {a j : Nat} {x : Int64} {l s : AL} (hc : cl M a = 21) (hj : j < ln M a) (hb : j < 2 ^ 31) : ev d (lf .lastore []) (l, .long x :: .int (nI j) :: .ref a :: s, toH M) = some (.inl 0, l, s, toH (setL M a (vp_updL (al M a) j x))) := by
  rw [ev_lf]
  have e : lasO (.long x :: .int (nI j) :: .ref a :: s) (toH M) = some (s, toH (setL M a (vp_updL (al M a) j x))) := by
    unfold lasO
    simp only [lAt_t hc]
    rw [if_neg (ix_ok hj hb), nI_clamp hb, hput_L hc]
  exact leaf_h (by rfl) (by exact e)
theorem st_Q {d : Nat} {M : MM} {a j v : Nat} {l s : AL} (hc : cl M a = 24) (hv : cl M v = 3) (hj : j < ln M a) (hb : j < 2 ^ 31) : ev d (lf .aastore []) (l, .ref v :: .int (nI j) :: .ref a :: s, toH M) = some (.inl 0, l, s, toH (setQ M a (va_up (aq M a) j (some v)))) := by
  rw [ev_lf]
  have e : aasO (.ref v :: .int (nI j) :: .ref a :: s) (toH M) = some (s, toH (setQ M a (va_up (aq M a) j (some v)))) := by
    unfold aasO
    simp only [qAt_t4 hc, oAt_t hv (by decide)]
    rw [if_neg (ix_ok hj hb), nI_clamp hb, hput_Q hc]
  exact leaf_h (by rfl) (by exact e)
theorem st_Qn {d : Nat} {M : MM} {a j : Nat} {l s : AL} (hc : cl M a = 24) (hj : j < ln M a) (hb : j < 2 ^ 31) : ev d (lf .aastore []) (l, .null :: .int (nI j) :: .ref a :: s, toH M) = some (.inl 0, l, s, toH (setQ M a (va_up (aq M a) j none))) := by
  rw [ev_lf]
  have e : aasO (.null :: .int (nI j) :: .ref a :: s) (toH M) = some (s, toH (setQ M a (va_up (aq M a) j none))) := by
    unfold aasO
    simp only [qAt_t4 hc]
    rw [if_neg (ix_ok hj hb), nI_clamp hb, hput_Q hc]
  exact leaf_h (by rfl) (by exact e)
theorem len_S {d : Nat} {M : MM} {l s : AL} : ev d (lf .arraylength []) (l, .ref 2000000 :: s, toH M) = some (.inl 0, l, .int (nI (sL M)) :: s, toH M) := by
  rw [ev_lf]
  have e : alnO (.ref 2000000 :: s) (toH M) = some (.int (nI (sL M)) :: s, toH M) := by
    unfold alnO
    simp only [scAt_t]
    rfl
  exact leaf_h (by rfl) (by exact e)
theorem len_I {d : Nat} {M : MM} {a : Nat} {l s : AL} (hc : cl M a = 20 ∨ cl M a = 22) : ev d (lf .arraylength []) (l, .ref a :: s, toH M) = some (.inl 0, l, .int (nI (ln M a)) :: s, toH M) := by
  rw [ev_lf]
  have e : alnO (.ref a :: s) (toH M) = some (.int (nI (ln M a)) :: s, toH M) := by
    unfold alnO
    rcases hc with hc | hc
    · simp only [scAt_n hc (by decide), rAt_t hc (by decide) _ (cel20 hc)]
      rfl
    · simp only [scAt_n hc (by decide), rAt_t hc (by decide) _ (cel22 hc)]
      rfl
  exact leaf_h (by rfl) (by exact e)
theorem nw_A {d : Nat} {M : MM} {n t : Nat} {at_ : ArrayType} {e0 : va_E} {l s : AL} (he : nwA at_ n = some e0) (ht : (t = 20 ∧ e0 = .inl (0, n, .inl (fun _ => 0))) ∨ (t = 21 ∧ e0 = .inl (1, n, .inr (.inl (fun _ => 0)))) ∨ (t = 22 ∧ e0 = .inl (2, n, .inl (fun _ => 0))) ∨ (t = 24 ∧ e0 = .inl (4, n, .inr (.inr (.inr (.inr (fun _ => none))))))) (hn : n ≤ 100000) (hx : nx M < 1000000) : ev d (lf (.newarray at_) []) (l, .int (nI n) :: s, toH M) = some (.inl 0, l, .ref (nx M) :: s, toH (xA M t n)) := by
  rw [ev_lf]
  have e : nwaO at_ (.int (nI n) :: s) (toH M) = some (.ref (nx M) :: s, toH (xA M t n)) := by
    unfold nwaO
    have hc : (nI n).toNatClampNeg = n := nI_clamp (by omega)
    simp only [hc]
    rw [if_neg (fun z => z.elim (fun z => nI_pos (by omega) z) (fun z => z.elim (fun z => by omega) (fun z => by have z : 1000000 ≤ nx M := z; omega))), he]
    exact congrArg (fun z => some (_, z)) (hnew_A ht hx)
  exact leaf_h (by rfl) (by exact e)
theorem nw_Q {d : Nat} {M : MM} {n i : Nat} {l s : AL} (hn : n ≤ 100000) (hx : nx M < 1000000) : ev d (lf (.anewarray i) []) (l, .int (nI n) :: s, toH M) = some (.inl 0, l, .ref (nx M) :: s, toH (xA M 24 n)) := by
  rw [ev_lf]
  have e : nwqO (.int (nI n) :: s) (toH M) = some (.ref (nx M) :: s, toH (xA M 24 n)) := by
    unfold nwqO
    have hc : (nI n).toNatClampNeg = n := nI_clamp (by omega)
    simp only [hc]
    rw [if_neg (fun z => z.elim (fun z => nI_pos (by omega) z) (fun z => z.elim (fun z => by omega) (fun z => by have z : 1000000 ≤ nx M := z; omega)))]
    exact congrArg (fun z => some (_, z)) (hnew_A (Or.inr (Or.inr (Or.inr ⟨rfl, rfl⟩))) hx)
  exact leaf_h (by rfl) (by exact e)
theorem nw_M {d : Nat} {M : MM} {n k i j : Nat} {l s : AL} (hn : n ≤ 100000) (hk : k ≤ 100000) (hx : nx M + (1 + n) ≤ 1000000) : ev d (lf (.multianewarray i j) []) (l, .int (nI k) :: .int (nI n) :: s, toH M) = some (.inl 0, l, .ref (nx M) :: s, toH (xR M n k)) := by
  rw [ev_lf]
  have e : mnaO (.int (nI k) :: .int (nI n) :: s) (toH M) = some (.ref (nx M) :: s, toH (xR M n k)) := by
    unfold mnaO
    have hc : (nI n).toNatClampNeg = n := nI_clamp (by omega)
    have hc2 : (nI k).toNatClampNeg = k := nI_clamp (by omega)
    simp only [hc, hc2]
    rw [if_neg (fun z => z.elim (fun z => nI_pos (by omega) z) (fun z => z.elim (fun z => nI_pos (by omega) z) (fun z => z.elim (fun z => by omega) (fun z => z.elim (fun z => by omega) (fun z => by have z : 1000000 < nx M + (1 + n) := z; omega)))))]
    exact congrArg (fun z => some (_, z)) (hmna_M hx)
  exact leaf_h (by rfl) (by exact e)
theorem nw_O {d : Nat} {M : MM} {ci i : Nat} {l s : AL} (hc : ci < 10) (hx : nx M < 1000000) : ev d (lf (.new i) [ci]) (l, s, toH M) = some (.inl 0, l, .ref (nx M) :: s, toH (xO M ci)) := by
  rw [ev_lf]
  have e : newO [ci] s (toH M) = some (.ref (nx M) :: s, toH (xO M ci)) := by
    unfold newO
    simp only
    rw [if_pos ⟨hc, show (toH M).2.1 < 1000000 from hx⟩]
    exact congrArg (fun z => some (_, z)) (hnew_O hc hx)
  exact leaf_h (by rfl) (by exact e)
theorem jk_len {d j i : Nat} {l s : AL} {h : AH} (hj : j < 24) (hr : s.length ≤ 4) : ev d (lf (.invokevirtual i) [900]) (l, .ref (1500000 + j) :: s, h) = some (.inl 0, l, .int (nI (sLen.getD j 0)) :: s, h) := by
  rw [ev_lf]
  have e : jdkO 900 (.ref (1500000 + j) :: s) h = some (.int (nI (sLen.getD j 0)) :: s, h) := by
    unfold jdkO
    simp only
    rw [if_pos ⟨Nat.le_add_right _ _, Nat.add_lt_add_left hj _, hr⟩, show 1500000 + j - 1500000 = j from Nat.add_sub_cancel_left _ _]
    rfl
  exact (leaf_c (by rfl) (by rfl)).trans (ctl_jv e)
theorem jk_chr {d j i k : Nat} {l s : AL} {h : AH} (hj : j < 24) (hk : k < sLen.getD j 0) (hb : k < 2 ^ 31) (hr : s.length ≤ 4) : ev d (lf (.invokevirtual i) [901]) (l, .int (nI k) :: .ref (1500000 + j) :: s, h) = some (.inl 0, l, .int ((sBy.getD j []).getD k 0) :: s, h) := by
  rw [ev_lf]
  have e : jdkO 901 (.int (nI k) :: .ref (1500000 + j) :: s) h = some (.int ((sBy.getD j []).getD k 0) :: s, h) := by
    unfold jdkO
    simp only
    rw [show 1500000 + j - 1500000 = j from Nat.add_sub_cancel_left _ _, if_pos ⟨Nat.le_add_right _ _, Nat.add_lt_add_left hj _, hr, ix_ok hk hb⟩, nI_clamp hb]
  exact (leaf_c (by rfl) (by rfl)).trans (ctl_jv e)
theorem jk_cpy {d : Nat} {M : MM} {a b i n : Nat} {l s : AL} (ha : cl M a = 20) (hb : cl M b = 20) (hn : n ≤ ln M a) (hm : n ≤ ln M b) (hi : n < 2 ^ 31) (hr : s.length ≤ 4) : ev d (lf (.invokestatic i) [902]) (l, .int (nI n) :: .int (nI 0) :: .ref b :: .int (nI 0) :: .ref a :: s, toH M) = some (.inl 0, l, s, toH (setA M b (va_cpy (ai M a) (ai M b) 0 0 n))) := by
  rw [ev_lf]
  have e : jdkO 902 (.int (nI n) :: .int (nI 0) :: .ref b :: .int (nI 0) :: .ref a :: s) (toH M) = some (s, toH (setA M b (va_cpy (ai M a) (ai M b) 0 0 n))) := by
    unfold jdkO
    have hc : (nI n).toNatClampNeg = n := nI_clamp hi
    have h0 : (nI 0).toNatClampNeg = 0 := nI_clamp (by omega)
    simp only [iAt_t ha, iAt_t hb, hc, h0]
    have p0 : ¬ nI 0 < 0 := nI_pos (by omega)
    have pn : ¬ nI n < 0 := nI_pos hi
    rw [if_neg (fun z => z.elim p0 (fun z => z.elim p0 (fun z => z.elim pn (fun z => z.elim (fun z => by omega) (fun z => z.elim (fun z => by omega) (fun z => by omega)))))), hput_A hb]
  exact (leaf_c (by rfl) (by rfl)).trans (ctl_js e)
theorem y_aaload3 {d : Nat} {M : MM} {a j : Nat} {l s : AL} (hc : cl M a = 23) (hj : j < ln M a) (hb : j < 2 ^ 31) : ev d (lf (.aaload) []) (l, .int (nI j) :: .ref a :: s, toH M) = some (.inl 0, l, va_rf (aq M a j) :: s, toH M) := ld_Q (Or.inl hc) hj hb
theorem x_aaload3 {d : Nat} {M : MM} {a j : Nat} {l s : AL} {t : AT} (hc : cl M a = 23) (hj : j < ln M a) (hb : j < 2 ^ 31) : ev d (sq (lf (.aaload) []) t) (l, .int (nI j) :: .ref a :: s, toH M) = ev d t (l, va_rf (aq M a j) :: s, toH M) := by rw [ev_sq, y_aaload3 hc hj hb] <;> rfl
theorem y_aaload4 {d : Nat} {M : MM} {a j : Nat} {l s : AL} (hc : cl M a = 24) (hj : j < ln M a) (hb : j < 2 ^ 31) : ev d (lf (.aaload) []) (l, .int (nI j) :: .ref a :: s, toH M) = some (.inl 0, l, va_rf (aq M a j) :: s, toH M) := ld_Q (Or.inr hc) hj hb
theorem x_aaload4 {d : Nat} {M : MM} {a j : Nat} {l s : AL} {t : AT} (hc : cl M a = 24) (hj : j < ln M a) (hb : j < 2 ^ 31) : ev d (sq (lf (.aaload) []) t) (l, .int (nI j) :: .ref a :: s, toH M) = ev d t (l, va_rf (aq M a j) :: s, toH M) := by rw [ev_sq, y_aaload4 hc hj hb] <;> rfl
theorem y_aastore {d : Nat} {M : MM} {a j v : Nat} {l s : AL} (hc : cl M a = 24) (hv : cl M v = 3) (hj : j < ln M a) (hb : j < 2 ^ 31) : ev d (lf (.aastore) []) (l, .ref v :: .int (nI j) :: .ref a :: s, toH M) = some (.inl 0, l, s, toH (setQ M a (va_up (aq M a) j (some v)))) := st_Q hc hv hj hb
theorem x_aastore {d : Nat} {M : MM} {a j v : Nat} {l s : AL} {t : AT} (hc : cl M a = 24) (hv : cl M v = 3) (hj : j < ln M a) (hb : j < 2 ^ 31) : ev d (sq (lf (.aastore) []) t) (l, .ref v :: .int (nI j) :: .ref a :: s, toH M) = ev d t (l, s, toH (setQ M a (va_up (aq M a) j (some v)))) := by rw [ev_sq, y_aastore hc hv hj hb] <;> rfl
theorem y_aastore_n {d : Nat} {M : MM} {a j : Nat} {l s : AL} (hc : cl M a = 24) (hj : j < ln M a) (hb : j < 2 ^ 31) : ev d (lf (.aastore) []) (l, .null :: .int (nI j) :: .ref a :: s, toH M) = some (.inl 0, l, s, toH (setQ M a (va_up (aq M a) j none))) := st_Qn hc hj hb
theorem x_aastore_n {d : Nat} {M : MM} {a j : Nat} {l s : AL} {t : AT} (hc : cl M a = 24) (hj : j < ln M a) (hb : j < 2 ^ 31) : ev d (sq (lf (.aastore) []) t) (l, .null :: .int (nI j) :: .ref a :: s, toH M) = ev d t (l, s, toH (setQ M a (va_up (aq M a) j none))) := by rw [ev_sq, y_aastore_n hc hj hb] <;> rfl
theorem y_anull {d : Nat} {l s : AL} {h : AH} : ev d (lf (.aconst_null) []) (l, s, h) = some (.inl 0, l, .null :: s, h) := by rw [ev_lf]; rfl
theorem x_anull {d : Nat} {l s : AL} {h : AH} {t : AT} : ev d (sq (lf (.aconst_null) []) t) (l, s, h) = ev d t (l, .null :: s, h) := by rw [ev_sq, y_anull] <;> rfl
theorem y_aload4 {d : Nat} {v0 v1 v2 v3 : Value} {x : Nat} {l s : AL} {h : AH} : ev d (lf (.aload 4) []) (v0 :: v1 :: v2 :: v3 :: .ref x :: l, s, h) = some (.inl 0, v0 :: v1 :: v2 :: v3 :: .ref x :: l, .ref x :: s, h) := by rw [ev_lf]; rfl
theorem x_aload4 {d : Nat} {v0 v1 v2 v3 : Value} {x : Nat} {l s : AL} {h : AH} {t : AT} : ev d (sq (lf (.aload 4) []) t) (v0 :: v1 :: v2 :: v3 :: .ref x :: l, s, h) = ev d t (v0 :: v1 :: v2 :: v3 :: .ref x :: l, .ref x :: s, h) := by rw [ev_sq, y_aload4] <;> rfl
theorem y_aload5 {d : Nat} {v0 v1 v2 v3 v4 : Value} {x : Nat} {l s : AL} {h : AH} : ev d (lf (.aload 5) []) (v0 :: v1 :: v2 :: v3 :: v4 :: .ref x :: l, s, h) = some (.inl 0, v0 :: v1 :: v2 :: v3 :: v4 :: .ref x :: l, .ref x :: s, h) := by rw [ev_lf]; rfl
theorem x_aload5 {d : Nat} {v0 v1 v2 v3 v4 : Value} {x : Nat} {l s : AL} {h : AH} {t : AT} : ev d (sq (lf (.aload 5) []) t) (v0 :: v1 :: v2 :: v3 :: v4 :: .ref x :: l, s, h) = ev d t (v0 :: v1 :: v2 :: v3 :: v4 :: .ref x :: l, .ref x :: s, h) := by rw [ev_sq, y_aload5] <;> rfl
theorem y_aload6 {d : Nat} {v0 v1 v2 v3 v4 v5 : Value} {x : Nat} {l s : AL} {h : AH} : ev d (lf (.aload 6) []) (v0 :: v1 :: v2 :: v3 :: v4 :: v5 :: .ref x :: l, s, h) = some (.inl 0, v0 :: v1 :: v2 :: v3 :: v4 :: v5 :: .ref x :: l, .ref x :: s, h) := by rw [ev_lf]; rfl
theorem x_aload6 {d : Nat} {v0 v1 v2 v3 v4 v5 : Value} {x : Nat} {l s : AL} {h : AH} {t : AT} : ev d (sq (lf (.aload 6) []) t) (v0 :: v1 :: v2 :: v3 :: v4 :: v5 :: .ref x :: l, s, h) = ev d t (v0 :: v1 :: v2 :: v3 :: v4 :: v5 :: .ref x :: l, .ref x :: s, h) := by rw [ev_sq, y_aload6] <;> rfl
theorem y_aload8 {d : Nat} {v0 v1 v2 v3 v4 v5 v6 v7 : Value} {x : Nat} {l s : AL} {h : AH} : ev d (lf (.aload 8) []) (v0 :: v1 :: v2 :: v3 :: v4 :: v5 :: v6 :: v7 :: .ref x :: l, s, h) = some (.inl 0, v0 :: v1 :: v2 :: v3 :: v4 :: v5 :: v6 :: v7 :: .ref x :: l, .ref x :: s, h) := by rw [ev_lf]; rfl
theorem x_aload8 {d : Nat} {v0 v1 v2 v3 v4 v5 v6 v7 : Value} {x : Nat} {l s : AL} {h : AH} {t : AT} : ev d (sq (lf (.aload 8) []) t) (v0 :: v1 :: v2 :: v3 :: v4 :: v5 :: v6 :: v7 :: .ref x :: l, s, h) = ev d t (v0 :: v1 :: v2 :: v3 :: v4 :: v5 :: v6 :: v7 :: .ref x :: l, .ref x :: s, h) := by rw [ev_sq, y_aload8] <;> rfl
theorem y_aload9 {d : Nat} {v0 v1 v2 v3 v4 v5 v6 v7 v8 : Value} {x : Nat} {l s : AL} {h : AH} : ev d (lf (.aload 9) []) (v0 :: v1 :: v2 :: v3 :: v4 :: v5 :: v6 :: v7 :: v8 :: .ref x :: l, s, h) = some (.inl 0, v0 :: v1 :: v2 :: v3 :: v4 :: v5 :: v6 :: v7 :: v8 :: .ref x :: l, .ref x :: s, h) := by rw [ev_lf]; rfl
theorem x_aload9 {d : Nat} {v0 v1 v2 v3 v4 v5 v6 v7 v8 : Value} {x : Nat} {l s : AL} {h : AH} {t : AT} : ev d (sq (lf (.aload 9) []) t) (v0 :: v1 :: v2 :: v3 :: v4 :: v5 :: v6 :: v7 :: v8 :: .ref x :: l, s, h) = ev d t (v0 :: v1 :: v2 :: v3 :: v4 :: v5 :: v6 :: v7 :: v8 :: .ref x :: l, .ref x :: s, h) := by rw [ev_sq, y_aload9] <;> rfl
theorem y_aload_n0 {d : Nat} {x : Nat} {l s : AL} {h : AH} : ev d (lf (.aload_n 0) []) (.ref x :: l, s, h) = some (.inl 0, .ref x :: l, .ref x :: s, h) := by rw [ev_lf]; rfl
theorem x_aload_n0 {d : Nat} {x : Nat} {l s : AL} {h : AH} {t : AT} : ev d (sq (lf (.aload_n 0) []) t) (.ref x :: l, s, h) = ev d t (.ref x :: l, .ref x :: s, h) := by rw [ev_sq, y_aload_n0] <;> rfl
theorem y_aload_n1 {d : Nat} {v0 : Value} {x : Nat} {l s : AL} {h : AH} : ev d (lf (.aload_n 1) []) (v0 :: .ref x :: l, s, h) = some (.inl 0, v0 :: .ref x :: l, .ref x :: s, h) := by rw [ev_lf]; rfl
theorem x_aload_n1 {d : Nat} {v0 : Value} {x : Nat} {l s : AL} {h : AH} {t : AT} : ev d (sq (lf (.aload_n 1) []) t) (v0 :: .ref x :: l, s, h) = ev d t (v0 :: .ref x :: l, .ref x :: s, h) := by rw [ev_sq, y_aload_n1] <;> rfl
theorem y_aload_n2 {d : Nat} {v0 v1 : Value} {x : Nat} {l s : AL} {h : AH} : ev d (lf (.aload_n 2) []) (v0 :: v1 :: .ref x :: l, s, h) = some (.inl 0, v0 :: v1 :: .ref x :: l, .ref x :: s, h) := by rw [ev_lf]; rfl
theorem x_aload_n2 {d : Nat} {v0 v1 : Value} {x : Nat} {l s : AL} {h : AH} {t : AT} : ev d (sq (lf (.aload_n 2) []) t) (v0 :: v1 :: .ref x :: l, s, h) = ev d t (v0 :: v1 :: .ref x :: l, .ref x :: s, h) := by rw [ev_sq, y_aload_n2] <;> rfl
theorem y_aload_n3 {d : Nat} {v0 v1 v2 : Value} {x : Nat} {l s : AL} {h : AH} : ev d (lf (.aload_n 3) []) (v0 :: v1 :: v2 :: .ref x :: l, s, h) = some (.inl 0, v0 :: v1 :: v2 :: .ref x :: l, .ref x :: s, h) := by rw [ev_lf]; rfl
theorem x_aload_n3 {d : Nat} {v0 v1 v2 : Value} {x : Nat} {l s : AL} {h : AH} {t : AT} : ev d (sq (lf (.aload_n 3) []) t) (v0 :: v1 :: v2 :: .ref x :: l, s, h) = ev d t (v0 :: v1 :: v2 :: .ref x :: l, .ref x :: s, h) := by rw [ev_sq, y_aload_n3] <;> rfl
theorem y_anewarray {d : Nat} {M : MM} {n i : Nat} {l s : AL} (hn : n ≤ 100000) (hx : nx M < 1000000) : ev d (lf (.anewarray i) []) (l, .int (nI n) :: s, toH M) = some (.inl 0, l, .ref (nx M) :: s, toH (xA M 24 n)) := nw_Q hn hx
theorem x_anewarray {d : Nat} {M : MM} {n i : Nat} {l s : AL} {t : AT} (hn : n ≤ 100000) (hx : nx M < 1000000) : ev d (sq (lf (.anewarray i) []) t) (l, .int (nI n) :: s, toH M) = ev d t (l, .ref (nx M) :: s, toH (xA M 24 n)) := by rw [ev_sq, y_anewarray hn hx] <;> rfl
theorem y_alen_s {d : Nat} {M : MM} {l s : AL} : ev d (lf (.arraylength) []) (l, .ref 2000000 :: s, toH M) = some (.inl 0, l, .int (nI (sL M)) :: s, toH M) := len_S
theorem x_alen_s {d : Nat} {M : MM} {l s : AL} {t : AT} : ev d (sq (lf (.arraylength) []) t) (l, .ref 2000000 :: s, toH M) = ev d t (l, .int (nI (sL M)) :: s, toH M) := by rw [ev_sq, y_alen_s] <;> rfl
theorem y_alen_i {d : Nat} {M : MM} {a : Nat} {l s : AL} (hc : cl M a = 20) : ev d (lf (.arraylength) []) (l, .ref a :: s, toH M) = some (.inl 0, l, .int (nI (ln M a)) :: s, toH M) := len_I (Or.inl hc)
theorem x_alen_i {d : Nat} {M : MM} {a : Nat} {l s : AL} {t : AT} (hc : cl M a = 20) : ev d (sq (lf (.arraylength) []) t) (l, .ref a :: s, toH M) = ev d t (l, .int (nI (ln M a)) :: s, toH M) := by rw [ev_sq, y_alen_i hc] <;> rfl
theorem y_alen_b {d : Nat} {M : MM} {a : Nat} {l s : AL} (hc : cl M a = 22) : ev d (lf (.arraylength) []) (l, .ref a :: s, toH M) = some (.inl 0, l, .int (nI (ln M a)) :: s, toH M) := len_I (Or.inr hc)
theorem x_alen_b {d : Nat} {M : MM} {a : Nat} {l s : AL} {t : AT} (hc : cl M a = 22) : ev d (sq (lf (.arraylength) []) t) (l, .ref a :: s, toH M) = ev d t (l, .int (nI (ln M a)) :: s, toH M) := by rw [ev_sq, y_alen_b hc] <;> rfl
theorem y_astore10 {d : Nat} {v0 v1 v2 v3 v4 v5 v6 v7 v8 v9 v10 : Value} {x : Nat} {l s : AL} {h : AH} : ev d (lf (.astore 10) []) (v0 :: v1 :: v2 :: v3 :: v4 :: v5 :: v6 :: v7 :: v8 :: v9 :: v10 :: l, .ref x :: s, h) = some (.inl 0, lset1 (v0 :: v1 :: v2 :: v3 :: v4 :: v5 :: v6 :: v7 :: v8 :: v9 :: v10 :: l) 10 (.ref x), s, h) := ev_lf.trans (leaf_s (q := (lset1 (v0 :: v1 :: v2 :: v3 :: v4 :: v5 :: v6 :: v7 :: v8 :: v9 :: v10 :: l) 10 (.ref x), s)) (if_pos (e := none) (show 10 < (v0 :: v1 :: v2 :: v3 :: v4 :: v5 :: v6 :: v7 :: v8 :: v9 :: v10 :: l).length by simp only [List.length_cons]; omega)))
theorem x_astore10 {d : Nat} {v0 v1 v2 v3 v4 v5 v6 v7 v8 v9 v10 : Value} {x : Nat} {l s : AL} {h : AH} {t : AT} : ev d (sq (lf (.astore 10) []) t) (v0 :: v1 :: v2 :: v3 :: v4 :: v5 :: v6 :: v7 :: v8 :: v9 :: v10 :: l, .ref x :: s, h) = ev d t (lset1 (v0 :: v1 :: v2 :: v3 :: v4 :: v5 :: v6 :: v7 :: v8 :: v9 :: v10 :: l) 10 (.ref x), s, h) := by rw [ev_sq, y_astore10] <;> rfl
theorem y_astore4 {d : Nat} {v0 v1 v2 v3 v4 : Value} {x : Nat} {l s : AL} {h : AH} : ev d (lf (.astore 4) []) (v0 :: v1 :: v2 :: v3 :: v4 :: l, .ref x :: s, h) = some (.inl 0, lset1 (v0 :: v1 :: v2 :: v3 :: v4 :: l) 4 (.ref x), s, h) := ev_lf.trans (leaf_s (q := (lset1 (v0 :: v1 :: v2 :: v3 :: v4 :: l) 4 (.ref x), s)) (if_pos (e := none) (show 4 < (v0 :: v1 :: v2 :: v3 :: v4 :: l).length by simp only [List.length_cons]; omega)))
theorem x_astore4 {d : Nat} {v0 v1 v2 v3 v4 : Value} {x : Nat} {l s : AL} {h : AH} {t : AT} : ev d (sq (lf (.astore 4) []) t) (v0 :: v1 :: v2 :: v3 :: v4 :: l, .ref x :: s, h) = ev d t (lset1 (v0 :: v1 :: v2 :: v3 :: v4 :: l) 4 (.ref x), s, h) := by rw [ev_sq, y_astore4] <;> rfl
theorem y_astore5 {d : Nat} {v0 v1 v2 v3 v4 v5 : Value} {x : Nat} {l s : AL} {h : AH} : ev d (lf (.astore 5) []) (v0 :: v1 :: v2 :: v3 :: v4 :: v5 :: l, .ref x :: s, h) = some (.inl 0, lset1 (v0 :: v1 :: v2 :: v3 :: v4 :: v5 :: l) 5 (.ref x), s, h) := ev_lf.trans (leaf_s (q := (lset1 (v0 :: v1 :: v2 :: v3 :: v4 :: v5 :: l) 5 (.ref x), s)) (if_pos (e := none) (show 5 < (v0 :: v1 :: v2 :: v3 :: v4 :: v5 :: l).length by simp only [List.length_cons]; omega)))
theorem x_astore5 {d : Nat} {v0 v1 v2 v3 v4 v5 : Value} {x : Nat} {l s : AL} {h : AH} {t : AT} : ev d (sq (lf (.astore 5) []) t) (v0 :: v1 :: v2 :: v3 :: v4 :: v5 :: l, .ref x :: s, h) = ev d t (lset1 (v0 :: v1 :: v2 :: v3 :: v4 :: v5 :: l) 5 (.ref x), s, h) := by rw [ev_sq, y_astore5] <;> rfl
theorem y_astore6 {d : Nat} {v0 v1 v2 v3 v4 v5 v6 : Value} {x : Nat} {l s : AL} {h : AH} : ev d (lf (.astore 6) []) (v0 :: v1 :: v2 :: v3 :: v4 :: v5 :: v6 :: l, .ref x :: s, h) = some (.inl 0, lset1 (v0 :: v1 :: v2 :: v3 :: v4 :: v5 :: v6 :: l) 6 (.ref x), s, h) := ev_lf.trans (leaf_s (q := (lset1 (v0 :: v1 :: v2 :: v3 :: v4 :: v5 :: v6 :: l) 6 (.ref x), s)) (if_pos (e := none) (show 6 < (v0 :: v1 :: v2 :: v3 :: v4 :: v5 :: v6 :: l).length by simp only [List.length_cons]; omega)))
theorem x_astore6 {d : Nat} {v0 v1 v2 v3 v4 v5 v6 : Value} {x : Nat} {l s : AL} {h : AH} {t : AT} : ev d (sq (lf (.astore 6) []) t) (v0 :: v1 :: v2 :: v3 :: v4 :: v5 :: v6 :: l, .ref x :: s, h) = ev d t (lset1 (v0 :: v1 :: v2 :: v3 :: v4 :: v5 :: v6 :: l) 6 (.ref x), s, h) := by rw [ev_sq, y_astore6] <;> rfl
theorem y_astore7 {d : Nat} {v0 v1 v2 v3 v4 v5 v6 v7 : Value} {x : Nat} {l s : AL} {h : AH} : ev d (lf (.astore 7) []) (v0 :: v1 :: v2 :: v3 :: v4 :: v5 :: v6 :: v7 :: l, .ref x :: s, h) = some (.inl 0, lset1 (v0 :: v1 :: v2 :: v3 :: v4 :: v5 :: v6 :: v7 :: l) 7 (.ref x), s, h) := ev_lf.trans (leaf_s (q := (lset1 (v0 :: v1 :: v2 :: v3 :: v4 :: v5 :: v6 :: v7 :: l) 7 (.ref x), s)) (if_pos (e := none) (show 7 < (v0 :: v1 :: v2 :: v3 :: v4 :: v5 :: v6 :: v7 :: l).length by simp only [List.length_cons]; omega)))
theorem x_astore7 {d : Nat} {v0 v1 v2 v3 v4 v5 v6 v7 : Value} {x : Nat} {l s : AL} {h : AH} {t : AT} : ev d (sq (lf (.astore 7) []) t) (v0 :: v1 :: v2 :: v3 :: v4 :: v5 :: v6 :: v7 :: l, .ref x :: s, h) = ev d t (lset1 (v0 :: v1 :: v2 :: v3 :: v4 :: v5 :: v6 :: v7 :: l) 7 (.ref x), s, h) := by rw [ev_sq, y_astore7] <;> rfl
theorem y_astore9 {d : Nat} {v0 v1 v2 v3 v4 v5 v6 v7 v8 v9 : Value} {x : Nat} {l s : AL} {h : AH} : ev d (lf (.astore 9) []) (v0 :: v1 :: v2 :: v3 :: v4 :: v5 :: v6 :: v7 :: v8 :: v9 :: l, .ref x :: s, h) = some (.inl 0, lset1 (v0 :: v1 :: v2 :: v3 :: v4 :: v5 :: v6 :: v7 :: v8 :: v9 :: l) 9 (.ref x), s, h) := ev_lf.trans (leaf_s (q := (lset1 (v0 :: v1 :: v2 :: v3 :: v4 :: v5 :: v6 :: v7 :: v8 :: v9 :: l) 9 (.ref x), s)) (if_pos (e := none) (show 9 < (v0 :: v1 :: v2 :: v3 :: v4 :: v5 :: v6 :: v7 :: v8 :: v9 :: l).length by simp only [List.length_cons]; omega)))
theorem x_astore9 {d : Nat} {v0 v1 v2 v3 v4 v5 v6 v7 v8 v9 : Value} {x : Nat} {l s : AL} {h : AH} {t : AT} : ev d (sq (lf (.astore 9) []) t) (v0 :: v1 :: v2 :: v3 :: v4 :: v5 :: v6 :: v7 :: v8 :: v9 :: l, .ref x :: s, h) = ev d t (lset1 (v0 :: v1 :: v2 :: v3 :: v4 :: v5 :: v6 :: v7 :: v8 :: v9 :: l) 9 (.ref x), s, h) := by rw [ev_sq, y_astore9] <;> rfl
theorem y_astore_n1 {d : Nat} {v0 v1 : Value} {x : Nat} {l s : AL} {h : AH} : ev d (lf (.astore_n 1) []) (v0 :: v1 :: l, .ref x :: s, h) = some (.inl 0, lset1 (v0 :: v1 :: l) 1 (.ref x), s, h) := ev_lf.trans (leaf_s (q := (lset1 (v0 :: v1 :: l) 1 (.ref x), s)) (if_pos (e := none) (show 1 < (v0 :: v1 :: l).length by simp only [List.length_cons]; omega)))
theorem x_astore_n1 {d : Nat} {v0 v1 : Value} {x : Nat} {l s : AL} {h : AH} {t : AT} : ev d (sq (lf (.astore_n 1) []) t) (v0 :: v1 :: l, .ref x :: s, h) = ev d t (lset1 (v0 :: v1 :: l) 1 (.ref x), s, h) := by rw [ev_sq, y_astore_n1] <;> rfl
theorem y_astore_n2 {d : Nat} {v0 v1 v2 : Value} {x : Nat} {l s : AL} {h : AH} : ev d (lf (.astore_n 2) []) (v0 :: v1 :: v2 :: l, .ref x :: s, h) = some (.inl 0, lset1 (v0 :: v1 :: v2 :: l) 2 (.ref x), s, h) := ev_lf.trans (leaf_s (q := (lset1 (v0 :: v1 :: v2 :: l) 2 (.ref x), s)) (if_pos (e := none) (show 2 < (v0 :: v1 :: v2 :: l).length by simp only [List.length_cons]; omega)))
theorem x_astore_n2 {d : Nat} {v0 v1 v2 : Value} {x : Nat} {l s : AL} {h : AH} {t : AT} : ev d (sq (lf (.astore_n 2) []) t) (v0 :: v1 :: v2 :: l, .ref x :: s, h) = ev d t (lset1 (v0 :: v1 :: v2 :: l) 2 (.ref x), s, h) := by rw [ev_sq, y_astore_n2] <;> rfl
theorem y_astore_n3 {d : Nat} {v0 v1 v2 v3 : Value} {x : Nat} {l s : AL} {h : AH} : ev d (lf (.astore_n 3) []) (v0 :: v1 :: v2 :: v3 :: l, .ref x :: s, h) = some (.inl 0, lset1 (v0 :: v1 :: v2 :: v3 :: l) 3 (.ref x), s, h) := ev_lf.trans (leaf_s (q := (lset1 (v0 :: v1 :: v2 :: v3 :: l) 3 (.ref x), s)) (if_pos (e := none) (show 3 < (v0 :: v1 :: v2 :: v3 :: l).length by simp only [List.length_cons]; omega)))
theorem x_astore_n3 {d : Nat} {v0 v1 v2 v3 : Value} {x : Nat} {l s : AL} {h : AH} {t : AT} : ev d (sq (lf (.astore_n 3) []) t) (v0 :: v1 :: v2 :: v3 :: l, .ref x :: s, h) = ev d t (lset1 (v0 :: v1 :: v2 :: v3 :: l) 3 (.ref x), s, h) := by rw [ev_sq, y_astore_n3] <;> rfl
theorem y_athrow {d : Nat} {M : MM} {l : AL} {E : Nat} (hn : nx M < 1000000) : ev d (lf (.athrow) [E]) (l, [], toH M) = some (.inr (.inr E), l, [], toH (xX M)) := by
  rw [ev_lf]
  show (if (toH M).2.1 < 1000000 then _ else _) = _
  rw [if_pos (show (toH M).2.1 < 1000000 from hn), hnew_X hn]
theorem y_baload {d : Nat} {M : MM} {a j : Nat} {l s : AL} (hc : cl M a = 22) (hj : j < ln M a) (hb : j < 2 ^ 31) : ev d (lf (.baload) []) (l, .int (nI j) :: .ref a :: s, toH M) = some (.inl 0, l, .int (ai M a j) :: s, toH M) := ld_B hc hj hb
theorem x_baload {d : Nat} {M : MM} {a j : Nat} {l s : AL} {t : AT} (hc : cl M a = 22) (hj : j < ln M a) (hb : j < 2 ^ 31) : ev d (sq (lf (.baload) []) t) (l, .int (nI j) :: .ref a :: s, toH M) = ev d t (l, .int (ai M a j) :: s, toH M) := by rw [ev_sq, y_baload hc hj hb] <;> rfl
theorem y_bastore {d : Nat} {M : MM} {a j : Nat} {x : Int32} {l s : AL} (hc : cl M a = 22) (hj : j < ln M a) (hb : j < 2 ^ 31) : ev d (lf (.bastore) []) (l, .int x :: .int (nI j) :: .ref a :: s, toH M) = some (.inl 0, l, s, toH (setA M a (upd (ai M a) j x.toInt8.toInt32))) := st_B hc hj hb
theorem x_bastore {d : Nat} {M : MM} {a j : Nat} {x : Int32} {l s : AL} {t : AT} (hc : cl M a = 22) (hj : j < ln M a) (hb : j < 2 ^ 31) : ev d (sq (lf (.bastore) []) t) (l, .int x :: .int (nI j) :: .ref a :: s, toH M) = ev d t (l, s, toH (setA M a (upd (ai M a) j x.toInt8.toInt32))) := by rw [ev_sq, y_bastore hc hj hb] <;> rfl
theorem y_bipush_m100 {d : Nat} {l s : AL} {h : AH} : ev d (lf (.bipush (-100)) []) (l, s, h) = some (.inl 0, l, .int ((-100)) :: s, h) := by
  rw [ev_lf]
  show some ((.inl 0 : AO), l, Value.int ((Int8.ofInt (-100)).toInt32) :: s, h) = _
  rw [show (Int8.ofInt (-100)).toInt32 = (-100) by decide +kernel]
theorem x_bipush_m100 {d : Nat} {l s : AL} {h : AH} {t : AT} : ev d (sq (lf (.bipush (-100)) []) t) (l, s, h) = ev d t (l, .int ((-100)) :: s, h) := by rw [ev_sq, y_bipush_m100] <;> rfl
theorem y_bipush_m11 {d : Nat} {l s : AL} {h : AH} : ev d (lf (.bipush (-11)) []) (l, s, h) = some (.inl 0, l, .int ((-11)) :: s, h) := by
  rw [ev_lf]
  show some ((.inl 0 : AO), l, Value.int ((Int8.ofInt (-11)).toInt32) :: s, h) = _
  rw [show (Int8.ofInt (-11)).toInt32 = (-11) by decide +kernel]
theorem x_bipush_m11 {d : Nat} {l s : AL} {h : AH} {t : AT} : ev d (sq (lf (.bipush (-11)) []) t) (l, s, h) = ev d t (l, .int ((-11)) :: s, h) := by rw [ev_sq, y_bipush_m11] <;> rfl
theorem y_bipush_m12 {d : Nat} {l s : AL} {h : AH} : ev d (lf (.bipush (-12)) []) (l, s, h) = some (.inl 0, l, .int ((-12)) :: s, h) := by
  rw [ev_lf]
  show some ((.inl 0 : AO), l, Value.int ((Int8.ofInt (-12)).toInt32) :: s, h) = _
  rw [show (Int8.ofInt (-12)).toInt32 = (-12) by decide +kernel]
theorem x_bipush_m12 {d : Nat} {l s : AL} {h : AH} {t : AT} : ev d (sq (lf (.bipush (-12)) []) t) (l, s, h) = ev d t (l, .int ((-12)) :: s, h) := by rw [ev_sq, y_bipush_m12] <;> rfl
theorem y_bipush_m13 {d : Nat} {l s : AL} {h : AH} : ev d (lf (.bipush (-13)) []) (l, s, h) = some (.inl 0, l, .int ((-13)) :: s, h) := by
  rw [ev_lf]
  show some ((.inl 0 : AO), l, Value.int ((Int8.ofInt (-13)).toInt32) :: s, h) = _
  rw [show (Int8.ofInt (-13)).toInt32 = (-13) by decide +kernel]
theorem x_bipush_m13 {d : Nat} {l s : AL} {h : AH} {t : AT} : ev d (sq (lf (.bipush (-13)) []) t) (l, s, h) = ev d t (l, .int ((-13)) :: s, h) := by rw [ev_sq, y_bipush_m13] <;> rfl
theorem y_bipush_m14 {d : Nat} {l s : AL} {h : AH} : ev d (lf (.bipush (-14)) []) (l, s, h) = some (.inl 0, l, .int ((-14)) :: s, h) := by
  rw [ev_lf]
  show some ((.inl 0 : AO), l, Value.int ((Int8.ofInt (-14)).toInt32) :: s, h) = _
  rw [show (Int8.ofInt (-14)).toInt32 = (-14) by decide +kernel]
theorem x_bipush_m14 {d : Nat} {l s : AL} {h : AH} {t : AT} : ev d (sq (lf (.bipush (-14)) []) t) (l, s, h) = ev d t (l, .int ((-14)) :: s, h) := by rw [ev_sq, y_bipush_m14] <;> rfl
theorem y_bipush_m15 {d : Nat} {l s : AL} {h : AH} : ev d (lf (.bipush (-15)) []) (l, s, h) = some (.inl 0, l, .int ((-15)) :: s, h) := by
  rw [ev_lf]
  show some ((.inl 0 : AO), l, Value.int ((Int8.ofInt (-15)).toInt32) :: s, h) = _
  rw [show (Int8.ofInt (-15)).toInt32 = (-15) by decide +kernel]
theorem x_bipush_m15 {d : Nat} {l s : AL} {h : AH} {t : AT} : ev d (sq (lf (.bipush (-15)) []) t) (l, s, h) = ev d t (l, .int ((-15)) :: s, h) := by rw [ev_sq, y_bipush_m15] <;> rfl
theorem y_bipush_m16 {d : Nat} {l s : AL} {h : AH} : ev d (lf (.bipush (-16)) []) (l, s, h) = some (.inl 0, l, .int ((-16)) :: s, h) := by
  rw [ev_lf]
  show some ((.inl 0 : AO), l, Value.int ((Int8.ofInt (-16)).toInt32) :: s, h) = _
  rw [show (Int8.ofInt (-16)).toInt32 = (-16) by decide +kernel]
theorem x_bipush_m16 {d : Nat} {l s : AL} {h : AH} {t : AT} : ev d (sq (lf (.bipush (-16)) []) t) (l, s, h) = ev d t (l, .int ((-16)) :: s, h) := by rw [ev_sq, y_bipush_m16] <;> rfl
theorem y_bipush_m2 {d : Nat} {l s : AL} {h : AH} : ev d (lf (.bipush (-2)) []) (l, s, h) = some (.inl 0, l, .int ((-2)) :: s, h) := by
  rw [ev_lf]
  show some ((.inl 0 : AO), l, Value.int ((Int8.ofInt (-2)).toInt32) :: s, h) = _
  rw [show (Int8.ofInt (-2)).toInt32 = (-2) by decide +kernel]
theorem x_bipush_m2 {d : Nat} {l s : AL} {h : AH} {t : AT} : ev d (sq (lf (.bipush (-2)) []) t) (l, s, h) = ev d t (l, .int ((-2)) :: s, h) := by rw [ev_sq, y_bipush_m2] <;> rfl
theorem y_bipush_m20 {d : Nat} {l s : AL} {h : AH} : ev d (lf (.bipush (-20)) []) (l, s, h) = some (.inl 0, l, .int ((-20)) :: s, h) := by
  rw [ev_lf]
  show some ((.inl 0 : AO), l, Value.int ((Int8.ofInt (-20)).toInt32) :: s, h) = _
  rw [show (Int8.ofInt (-20)).toInt32 = (-20) by decide +kernel]
theorem x_bipush_m20 {d : Nat} {l s : AL} {h : AH} {t : AT} : ev d (sq (lf (.bipush (-20)) []) t) (l, s, h) = ev d t (l, .int ((-20)) :: s, h) := by rw [ev_sq, y_bipush_m20] <;> rfl
theorem y_bipush_m8 {d : Nat} {l s : AL} {h : AH} : ev d (lf (.bipush (-8)) []) (l, s, h) = some (.inl 0, l, .int ((-8)) :: s, h) := by
  rw [ev_lf]
  show some ((.inl 0 : AO), l, Value.int ((Int8.ofInt (-8)).toInt32) :: s, h) = _
  rw [show (Int8.ofInt (-8)).toInt32 = (-8) by decide +kernel]
theorem x_bipush_m8 {d : Nat} {l s : AL} {h : AH} {t : AT} : ev d (sq (lf (.bipush (-8)) []) t) (l, s, h) = ev d t (l, .int ((-8)) :: s, h) := by rw [ev_sq, y_bipush_m8] <;> rfl
theorem y_bipush_m99 {d : Nat} {l s : AL} {h : AH} : ev d (lf (.bipush (-99)) []) (l, s, h) = some (.inl 0, l, .int ((-99)) :: s, h) := by
  rw [ev_lf]
  show some ((.inl 0 : AO), l, Value.int ((Int8.ofInt (-99)).toInt32) :: s, h) = _
  rw [show (Int8.ofInt (-99)).toInt32 = (-99) by decide +kernel]
theorem x_bipush_m99 {d : Nat} {l s : AL} {h : AH} {t : AT} : ev d (sq (lf (.bipush (-99)) []) t) (l, s, h) = ev d t (l, .int ((-99)) :: s, h) := by rw [ev_sq, y_bipush_m99] <;> rfl
theorem y_bipush_10 {d : Nat} {l s : AL} {h : AH} : ev d (lf (.bipush 10) []) (l, s, h) = some (.inl 0, l, .int (nI 10) :: s, h) := by
  rw [ev_lf]
  show some ((.inl 0 : AO), l, Value.int ((Int8.ofInt (10)).toInt32) :: s, h) = _
  rw [show (Int8.ofInt (10)).toInt32 = nI 10 by decide +kernel]
theorem x_bipush_10 {d : Nat} {l s : AL} {h : AH} {t : AT} : ev d (sq (lf (.bipush 10) []) t) (l, s, h) = ev d t (l, .int (nI 10) :: s, h) := by rw [ev_sq, y_bipush_10] <;> rfl
theorem y_bipush_100 {d : Nat} {l s : AL} {h : AH} : ev d (lf (.bipush 100) []) (l, s, h) = some (.inl 0, l, .int (nI 100) :: s, h) := by
  rw [ev_lf]
  show some ((.inl 0 : AO), l, Value.int ((Int8.ofInt (100)).toInt32) :: s, h) = _
  rw [show (Int8.ofInt (100)).toInt32 = nI 100 by decide +kernel]
theorem x_bipush_100 {d : Nat} {l s : AL} {h : AH} {t : AT} : ev d (sq (lf (.bipush 100) []) t) (l, s, h) = ev d t (l, .int (nI 100) :: s, h) := by rw [ev_sq, y_bipush_100] <;> rfl
theorem y_bipush_11 {d : Nat} {l s : AL} {h : AH} : ev d (lf (.bipush 11) []) (l, s, h) = some (.inl 0, l, .int (nI 11) :: s, h) := by
  rw [ev_lf]
  show some ((.inl 0 : AO), l, Value.int ((Int8.ofInt (11)).toInt32) :: s, h) = _
  rw [show (Int8.ofInt (11)).toInt32 = nI 11 by decide +kernel]
theorem x_bipush_11 {d : Nat} {l s : AL} {h : AH} {t : AT} : ev d (sq (lf (.bipush 11) []) t) (l, s, h) = ev d t (l, .int (nI 11) :: s, h) := by rw [ev_sq, y_bipush_11] <;> rfl
theorem y_bipush_12 {d : Nat} {l s : AL} {h : AH} : ev d (lf (.bipush 12) []) (l, s, h) = some (.inl 0, l, .int (nI 12) :: s, h) := by
  rw [ev_lf]
  show some ((.inl 0 : AO), l, Value.int ((Int8.ofInt (12)).toInt32) :: s, h) = _
  rw [show (Int8.ofInt (12)).toInt32 = nI 12 by decide +kernel]
theorem x_bipush_12 {d : Nat} {l s : AL} {h : AH} {t : AT} : ev d (sq (lf (.bipush 12) []) t) (l, s, h) = ev d t (l, .int (nI 12) :: s, h) := by rw [ev_sq, y_bipush_12] <;> rfl
theorem y_bipush_122 {d : Nat} {l s : AL} {h : AH} : ev d (lf (.bipush 122) []) (l, s, h) = some (.inl 0, l, .int (nI 122) :: s, h) := by
  rw [ev_lf]
  show some ((.inl 0 : AO), l, Value.int ((Int8.ofInt (122)).toInt32) :: s, h) = _
  rw [show (Int8.ofInt (122)).toInt32 = nI 122 by decide +kernel]
theorem x_bipush_122 {d : Nat} {l s : AL} {h : AH} {t : AT} : ev d (sq (lf (.bipush 122) []) t) (l, s, h) = ev d t (l, .int (nI 122) :: s, h) := by rw [ev_sq, y_bipush_122] <;> rfl
theorem y_bipush_13 {d : Nat} {l s : AL} {h : AH} : ev d (lf (.bipush 13) []) (l, s, h) = some (.inl 0, l, .int (nI 13) :: s, h) := by
  rw [ev_lf]
  show some ((.inl 0 : AO), l, Value.int ((Int8.ofInt (13)).toInt32) :: s, h) = _
  rw [show (Int8.ofInt (13)).toInt32 = nI 13 by decide +kernel]
theorem x_bipush_13 {d : Nat} {l s : AL} {h : AH} {t : AT} : ev d (sq (lf (.bipush 13) []) t) (l, s, h) = ev d t (l, .int (nI 13) :: s, h) := by rw [ev_sq, y_bipush_13] <;> rfl
theorem y_bipush_14 {d : Nat} {l s : AL} {h : AH} : ev d (lf (.bipush 14) []) (l, s, h) = some (.inl 0, l, .int (nI 14) :: s, h) := by
  rw [ev_lf]
  show some ((.inl 0 : AO), l, Value.int ((Int8.ofInt (14)).toInt32) :: s, h) = _
  rw [show (Int8.ofInt (14)).toInt32 = nI 14 by decide +kernel]
theorem x_bipush_14 {d : Nat} {l s : AL} {h : AH} {t : AT} : ev d (sq (lf (.bipush 14) []) t) (l, s, h) = ev d t (l, .int (nI 14) :: s, h) := by rw [ev_sq, y_bipush_14] <;> rfl
theorem y_bipush_15 {d : Nat} {l s : AL} {h : AH} : ev d (lf (.bipush 15) []) (l, s, h) = some (.inl 0, l, .int (nI 15) :: s, h) := by
  rw [ev_lf]
  show some ((.inl 0 : AO), l, Value.int ((Int8.ofInt (15)).toInt32) :: s, h) = _
  rw [show (Int8.ofInt (15)).toInt32 = nI 15 by decide +kernel]
theorem x_bipush_15 {d : Nat} {l s : AL} {h : AH} {t : AT} : ev d (sq (lf (.bipush 15) []) t) (l, s, h) = ev d t (l, .int (nI 15) :: s, h) := by rw [ev_sq, y_bipush_15] <;> rfl
theorem y_bipush_16 {d : Nat} {l s : AL} {h : AH} : ev d (lf (.bipush 16) []) (l, s, h) = some (.inl 0, l, .int (nI 16) :: s, h) := by
  rw [ev_lf]
  show some ((.inl 0 : AO), l, Value.int ((Int8.ofInt (16)).toInt32) :: s, h) = _
  rw [show (Int8.ofInt (16)).toInt32 = nI 16 by decide +kernel]
theorem x_bipush_16 {d : Nat} {l s : AL} {h : AH} {t : AT} : ev d (sq (lf (.bipush 16) []) t) (l, s, h) = ev d t (l, .int (nI 16) :: s, h) := by rw [ev_sq, y_bipush_16] <;> rfl
theorem y_bipush_18 {d : Nat} {l s : AL} {h : AH} : ev d (lf (.bipush 18) []) (l, s, h) = some (.inl 0, l, .int (nI 18) :: s, h) := by
  rw [ev_lf]
  show some ((.inl 0 : AO), l, Value.int ((Int8.ofInt (18)).toInt32) :: s, h) = _
  rw [show (Int8.ofInt (18)).toInt32 = nI 18 by decide +kernel]
theorem x_bipush_18 {d : Nat} {l s : AL} {h : AH} {t : AT} : ev d (sq (lf (.bipush 18) []) t) (l, s, h) = ev d t (l, .int (nI 18) :: s, h) := by rw [ev_sq, y_bipush_18] <;> rfl
theorem y_bipush_19 {d : Nat} {l s : AL} {h : AH} : ev d (lf (.bipush 19) []) (l, s, h) = some (.inl 0, l, .int (nI 19) :: s, h) := by
  rw [ev_lf]
  show some ((.inl 0 : AO), l, Value.int ((Int8.ofInt (19)).toInt32) :: s, h) = _
  rw [show (Int8.ofInt (19)).toInt32 = nI 19 by decide +kernel]
theorem x_bipush_19 {d : Nat} {l s : AL} {h : AH} {t : AT} : ev d (sq (lf (.bipush 19) []) t) (l, s, h) = ev d t (l, .int (nI 19) :: s, h) := by rw [ev_sq, y_bipush_19] <;> rfl
theorem y_bipush_20 {d : Nat} {l s : AL} {h : AH} : ev d (lf (.bipush 20) []) (l, s, h) = some (.inl 0, l, .int (nI 20) :: s, h) := by
  rw [ev_lf]
  show some ((.inl 0 : AO), l, Value.int ((Int8.ofInt (20)).toInt32) :: s, h) = _
  rw [show (Int8.ofInt (20)).toInt32 = nI 20 by decide +kernel]
theorem x_bipush_20 {d : Nat} {l s : AL} {h : AH} {t : AT} : ev d (sq (lf (.bipush 20) []) t) (l, s, h) = ev d t (l, .int (nI 20) :: s, h) := by rw [ev_sq, y_bipush_20] <;> rfl
theorem y_bipush_21 {d : Nat} {l s : AL} {h : AH} : ev d (lf (.bipush 21) []) (l, s, h) = some (.inl 0, l, .int (nI 21) :: s, h) := by
  rw [ev_lf]
  show some ((.inl 0 : AO), l, Value.int ((Int8.ofInt (21)).toInt32) :: s, h) = _
  rw [show (Int8.ofInt (21)).toInt32 = nI 21 by decide +kernel]
theorem x_bipush_21 {d : Nat} {l s : AL} {h : AH} {t : AT} : ev d (sq (lf (.bipush 21) []) t) (l, s, h) = ev d t (l, .int (nI 21) :: s, h) := by rw [ev_sq, y_bipush_21] <;> rfl
theorem y_bipush_22 {d : Nat} {l s : AL} {h : AH} : ev d (lf (.bipush 22) []) (l, s, h) = some (.inl 0, l, .int (nI 22) :: s, h) := by
  rw [ev_lf]
  show some ((.inl 0 : AO), l, Value.int ((Int8.ofInt (22)).toInt32) :: s, h) = _
  rw [show (Int8.ofInt (22)).toInt32 = nI 22 by decide +kernel]
theorem x_bipush_22 {d : Nat} {l s : AL} {h : AH} {t : AT} : ev d (sq (lf (.bipush 22) []) t) (l, s, h) = ev d t (l, .int (nI 22) :: s, h) := by rw [ev_sq, y_bipush_22] <;> rfl
theorem y_bipush_23 {d : Nat} {l s : AL} {h : AH} : ev d (lf (.bipush 23) []) (l, s, h) = some (.inl 0, l, .int (nI 23) :: s, h) := by
  rw [ev_lf]
  show some ((.inl 0 : AO), l, Value.int ((Int8.ofInt (23)).toInt32) :: s, h) = _
  rw [show (Int8.ofInt (23)).toInt32 = nI 23 by decide +kernel]
theorem x_bipush_23 {d : Nat} {l s : AL} {h : AH} {t : AT} : ev d (sq (lf (.bipush 23) []) t) (l, s, h) = ev d t (l, .int (nI 23) :: s, h) := by rw [ev_sq, y_bipush_23] <;> rfl
theorem y_bipush_24 {d : Nat} {l s : AL} {h : AH} : ev d (lf (.bipush 24) []) (l, s, h) = some (.inl 0, l, .int (nI 24) :: s, h) := by
  rw [ev_lf]
  show some ((.inl 0 : AO), l, Value.int ((Int8.ofInt (24)).toInt32) :: s, h) = _
  rw [show (Int8.ofInt (24)).toInt32 = nI 24 by decide +kernel]
theorem x_bipush_24 {d : Nat} {l s : AL} {h : AH} {t : AT} : ev d (sq (lf (.bipush 24) []) t) (l, s, h) = ev d t (l, .int (nI 24) :: s, h) := by rw [ev_sq, y_bipush_24] <;> rfl
theorem y_bipush_25 {d : Nat} {l s : AL} {h : AH} : ev d (lf (.bipush 25) []) (l, s, h) = some (.inl 0, l, .int (nI 25) :: s, h) := by
  rw [ev_lf]
  show some ((.inl 0 : AO), l, Value.int ((Int8.ofInt (25)).toInt32) :: s, h) = _
  rw [show (Int8.ofInt (25)).toInt32 = nI 25 by decide +kernel]
theorem x_bipush_25 {d : Nat} {l s : AL} {h : AH} {t : AT} : ev d (sq (lf (.bipush 25) []) t) (l, s, h) = ev d t (l, .int (nI 25) :: s, h) := by rw [ev_sq, y_bipush_25] <;> rfl
theorem y_bipush_26 {d : Nat} {l s : AL} {h : AH} : ev d (lf (.bipush 26) []) (l, s, h) = some (.inl 0, l, .int (nI 26) :: s, h) := by
  rw [ev_lf]
  show some ((.inl 0 : AO), l, Value.int ((Int8.ofInt (26)).toInt32) :: s, h) = _
  rw [show (Int8.ofInt (26)).toInt32 = nI 26 by decide +kernel]
theorem x_bipush_26 {d : Nat} {l s : AL} {h : AH} {t : AT} : ev d (sq (lf (.bipush 26) []) t) (l, s, h) = ev d t (l, .int (nI 26) :: s, h) := by rw [ev_sq, y_bipush_26] <;> rfl
theorem y_bipush_30 {d : Nat} {l s : AL} {h : AH} : ev d (lf (.bipush 30) []) (l, s, h) = some (.inl 0, l, .int (nI 30) :: s, h) := by
  rw [ev_lf]
  show some ((.inl 0 : AO), l, Value.int ((Int8.ofInt (30)).toInt32) :: s, h) = _
  rw [show (Int8.ofInt (30)).toInt32 = nI 30 by decide +kernel]
theorem x_bipush_30 {d : Nat} {l s : AL} {h : AH} {t : AT} : ev d (sq (lf (.bipush 30) []) t) (l, s, h) = ev d t (l, .int (nI 30) :: s, h) := by rw [ev_sq, y_bipush_30] <;> rfl
theorem y_bipush_32 {d : Nat} {l s : AL} {h : AH} : ev d (lf (.bipush 32) []) (l, s, h) = some (.inl 0, l, .int (nI 32) :: s, h) := by
  rw [ev_lf]
  show some ((.inl 0 : AO), l, Value.int ((Int8.ofInt (32)).toInt32) :: s, h) = _
  rw [show (Int8.ofInt (32)).toInt32 = nI 32 by decide +kernel]
theorem x_bipush_32 {d : Nat} {l s : AL} {h : AH} {t : AT} : ev d (sq (lf (.bipush 32) []) t) (l, s, h) = ev d t (l, .int (nI 32) :: s, h) := by rw [ev_sq, y_bipush_32] <;> rfl
theorem y_bipush_40 {d : Nat} {l s : AL} {h : AH} : ev d (lf (.bipush 40) []) (l, s, h) = some (.inl 0, l, .int (nI 40) :: s, h) := by
  rw [ev_lf]
  show some ((.inl 0 : AO), l, Value.int ((Int8.ofInt (40)).toInt32) :: s, h) = _
  rw [show (Int8.ofInt (40)).toInt32 = nI 40 by decide +kernel]
theorem x_bipush_40 {d : Nat} {l s : AL} {h : AH} {t : AT} : ev d (sq (lf (.bipush 40) []) t) (l, s, h) = ev d t (l, .int (nI 40) :: s, h) := by rw [ev_sq, y_bipush_40] <;> rfl
theorem y_bipush_41 {d : Nat} {l s : AL} {h : AH} : ev d (lf (.bipush 41) []) (l, s, h) = some (.inl 0, l, .int (nI 41) :: s, h) := by
  rw [ev_lf]
  show some ((.inl 0 : AO), l, Value.int ((Int8.ofInt (41)).toInt32) :: s, h) = _
  rw [show (Int8.ofInt (41)).toInt32 = nI 41 by decide +kernel]
theorem x_bipush_41 {d : Nat} {l s : AL} {h : AH} {t : AT} : ev d (sq (lf (.bipush 41) []) t) (l, s, h) = ev d t (l, .int (nI 41) :: s, h) := by rw [ev_sq, y_bipush_41] <;> rfl
theorem y_bipush_42 {d : Nat} {l s : AL} {h : AH} : ev d (lf (.bipush 42) []) (l, s, h) = some (.inl 0, l, .int (nI 42) :: s, h) := by
  rw [ev_lf]
  show some ((.inl 0 : AO), l, Value.int ((Int8.ofInt (42)).toInt32) :: s, h) = _
  rw [show (Int8.ofInt (42)).toInt32 = nI 42 by decide +kernel]
theorem x_bipush_42 {d : Nat} {l s : AL} {h : AH} {t : AT} : ev d (sq (lf (.bipush 42) []) t) (l, s, h) = ev d t (l, .int (nI 42) :: s, h) := by rw [ev_sq, y_bipush_42] <;> rfl
theorem y_bipush_43 {d : Nat} {l s : AL} {h : AH} : ev d (lf (.bipush 43) []) (l, s, h) = some (.inl 0, l, .int (nI 43) :: s, h) := by
  rw [ev_lf]
  show some ((.inl 0 : AO), l, Value.int ((Int8.ofInt (43)).toInt32) :: s, h) = _
  rw [show (Int8.ofInt (43)).toInt32 = nI 43 by decide +kernel]
theorem x_bipush_43 {d : Nat} {l s : AL} {h : AH} {t : AT} : ev d (sq (lf (.bipush 43) []) t) (l, s, h) = ev d t (l, .int (nI 43) :: s, h) := by rw [ev_sq, y_bipush_43] <;> rfl
theorem y_bipush_44 {d : Nat} {l s : AL} {h : AH} : ev d (lf (.bipush 44) []) (l, s, h) = some (.inl 0, l, .int (nI 44) :: s, h) := by
  rw [ev_lf]
  show some ((.inl 0 : AO), l, Value.int ((Int8.ofInt (44)).toInt32) :: s, h) = _
  rw [show (Int8.ofInt (44)).toInt32 = nI 44 by decide +kernel]
theorem x_bipush_44 {d : Nat} {l s : AL} {h : AH} {t : AT} : ev d (sq (lf (.bipush 44) []) t) (l, s, h) = ev d t (l, .int (nI 44) :: s, h) := by rw [ev_sq, y_bipush_44] <;> rfl
theorem y_bipush_45 {d : Nat} {l s : AL} {h : AH} : ev d (lf (.bipush 45) []) (l, s, h) = some (.inl 0, l, .int (nI 45) :: s, h) := by
  rw [ev_lf]
  show some ((.inl 0 : AO), l, Value.int ((Int8.ofInt (45)).toInt32) :: s, h) = _
  rw [show (Int8.ofInt (45)).toInt32 = nI 45 by decide +kernel]
theorem x_bipush_45 {d : Nat} {l s : AL} {h : AH} {t : AT} : ev d (sq (lf (.bipush 45) []) t) (l, s, h) = ev d t (l, .int (nI 45) :: s, h) := by rw [ev_sq, y_bipush_45] <;> rfl
theorem y_bipush_47 {d : Nat} {l s : AL} {h : AH} : ev d (lf (.bipush 47) []) (l, s, h) = some (.inl 0, l, .int (nI 47) :: s, h) := by
  rw [ev_lf]
  show some ((.inl 0 : AO), l, Value.int ((Int8.ofInt (47)).toInt32) :: s, h) = _
  rw [show (Int8.ofInt (47)).toInt32 = nI 47 by decide +kernel]
theorem x_bipush_47 {d : Nat} {l s : AL} {h : AH} {t : AT} : ev d (sq (lf (.bipush 47) []) t) (l, s, h) = ev d t (l, .int (nI 47) :: s, h) := by rw [ev_sq, y_bipush_47] <;> rfl
theorem y_bipush_48 {d : Nat} {l s : AL} {h : AH} : ev d (lf (.bipush 48) []) (l, s, h) = some (.inl 0, l, .int (nI 48) :: s, h) := by
  rw [ev_lf]
  show some ((.inl 0 : AO), l, Value.int ((Int8.ofInt (48)).toInt32) :: s, h) = _
  rw [show (Int8.ofInt (48)).toInt32 = nI 48 by decide +kernel]
theorem x_bipush_48 {d : Nat} {l s : AL} {h : AH} {t : AT} : ev d (sq (lf (.bipush 48) []) t) (l, s, h) = ev d t (l, .int (nI 48) :: s, h) := by rw [ev_sq, y_bipush_48] <;> rfl
theorem y_bipush_57 {d : Nat} {l s : AL} {h : AH} : ev d (lf (.bipush 57) []) (l, s, h) = some (.inl 0, l, .int (nI 57) :: s, h) := by
  rw [ev_lf]
  show some ((.inl 0 : AO), l, Value.int ((Int8.ofInt (57)).toInt32) :: s, h) = _
  rw [show (Int8.ofInt (57)).toInt32 = nI 57 by decide +kernel]
theorem x_bipush_57 {d : Nat} {l s : AL} {h : AH} {t : AT} : ev d (sq (lf (.bipush 57) []) t) (l, s, h) = ev d t (l, .int (nI 57) :: s, h) := by rw [ev_sq, y_bipush_57] <;> rfl
theorem y_bipush_59 {d : Nat} {l s : AL} {h : AH} : ev d (lf (.bipush 59) []) (l, s, h) = some (.inl 0, l, .int (nI 59) :: s, h) := by
  rw [ev_lf]
  show some ((.inl 0 : AO), l, Value.int ((Int8.ofInt (59)).toInt32) :: s, h) = _
  rw [show (Int8.ofInt (59)).toInt32 = nI 59 by decide +kernel]
theorem x_bipush_59 {d : Nat} {l s : AL} {h : AH} {t : AT} : ev d (sq (lf (.bipush 59) []) t) (l, s, h) = ev d t (l, .int (nI 59) :: s, h) := by rw [ev_sq, y_bipush_59] <;> rfl
theorem y_bipush_6 {d : Nat} {l s : AL} {h : AH} : ev d (lf (.bipush 6) []) (l, s, h) = some (.inl 0, l, .int (nI 6) :: s, h) := by
  rw [ev_lf]
  show some ((.inl 0 : AO), l, Value.int ((Int8.ofInt (6)).toInt32) :: s, h) = _
  rw [show (Int8.ofInt (6)).toInt32 = nI 6 by decide +kernel]
theorem x_bipush_6 {d : Nat} {l s : AL} {h : AH} {t : AT} : ev d (sq (lf (.bipush 6) []) t) (l, s, h) = ev d t (l, .int (nI 6) :: s, h) := by rw [ev_sq, y_bipush_6] <;> rfl
theorem y_bipush_60 {d : Nat} {l s : AL} {h : AH} : ev d (lf (.bipush 60) []) (l, s, h) = some (.inl 0, l, .int (nI 60) :: s, h) := by
  rw [ev_lf]
  show some ((.inl 0 : AO), l, Value.int ((Int8.ofInt (60)).toInt32) :: s, h) = _
  rw [show (Int8.ofInt (60)).toInt32 = nI 60 by decide +kernel]
theorem x_bipush_60 {d : Nat} {l s : AL} {h : AH} {t : AT} : ev d (sq (lf (.bipush 60) []) t) (l, s, h) = ev d t (l, .int (nI 60) :: s, h) := by rw [ev_sq, y_bipush_60] <;> rfl
theorem y_bipush_63 {d : Nat} {l s : AL} {h : AH} : ev d (lf (.bipush 63) []) (l, s, h) = some (.inl 0, l, .int (nI 63) :: s, h) := by
  rw [ev_lf]
  show some ((.inl 0 : AO), l, Value.int ((Int8.ofInt (63)).toInt32) :: s, h) = _
  rw [show (Int8.ofInt (63)).toInt32 = nI 63 by decide +kernel]
theorem x_bipush_63 {d : Nat} {l s : AL} {h : AH} {t : AT} : ev d (sq (lf (.bipush 63) []) t) (l, s, h) = ev d t (l, .int (nI 63) :: s, h) := by rw [ev_sq, y_bipush_63] <;> rfl
theorem y_bipush_64 {d : Nat} {l s : AL} {h : AH} : ev d (lf (.bipush 64) []) (l, s, h) = some (.inl 0, l, .int (nI 64) :: s, h) := by
  rw [ev_lf]
  show some ((.inl 0 : AO), l, Value.int ((Int8.ofInt (64)).toInt32) :: s, h) = _
  rw [show (Int8.ofInt (64)).toInt32 = nI 64 by decide +kernel]
theorem x_bipush_64 {d : Nat} {l s : AL} {h : AH} {t : AT} : ev d (sq (lf (.bipush 64) []) t) (l, s, h) = ev d t (l, .int (nI 64) :: s, h) := by rw [ev_sq, y_bipush_64] <;> rfl
theorem y_bipush_7 {d : Nat} {l s : AL} {h : AH} : ev d (lf (.bipush 7) []) (l, s, h) = some (.inl 0, l, .int (nI 7) :: s, h) := by
  rw [ev_lf]
  show some ((.inl 0 : AO), l, Value.int ((Int8.ofInt (7)).toInt32) :: s, h) = _
  rw [show (Int8.ofInt (7)).toInt32 = nI 7 by decide +kernel]
theorem x_bipush_7 {d : Nat} {l s : AL} {h : AH} {t : AT} : ev d (sq (lf (.bipush 7) []) t) (l, s, h) = ev d t (l, .int (nI 7) :: s, h) := by rw [ev_sq, y_bipush_7] <;> rfl
theorem y_bipush_8 {d : Nat} {l s : AL} {h : AH} : ev d (lf (.bipush 8) []) (l, s, h) = some (.inl 0, l, .int (nI 8) :: s, h) := by
  rw [ev_lf]
  show some ((.inl 0 : AO), l, Value.int ((Int8.ofInt (8)).toInt32) :: s, h) = _
  rw [show (Int8.ofInt (8)).toInt32 = nI 8 by decide +kernel]
theorem x_bipush_8 {d : Nat} {l s : AL} {h : AH} {t : AT} : ev d (sq (lf (.bipush 8) []) t) (l, s, h) = ev d t (l, .int (nI 8) :: s, h) := by rw [ev_sq, y_bipush_8] <;> rfl
theorem y_bipush_80 {d : Nat} {l s : AL} {h : AH} : ev d (lf (.bipush 80) []) (l, s, h) = some (.inl 0, l, .int (nI 80) :: s, h) := by
  rw [ev_lf]
  show some ((.inl 0 : AO), l, Value.int ((Int8.ofInt (80)).toInt32) :: s, h) = _
  rw [show (Int8.ofInt (80)).toInt32 = nI 80 by decide +kernel]
theorem x_bipush_80 {d : Nat} {l s : AL} {h : AH} {t : AT} : ev d (sq (lf (.bipush 80) []) t) (l, s, h) = ev d t (l, .int (nI 80) :: s, h) := by rw [ev_sq, y_bipush_80] <;> rfl
theorem y_bipush_81 {d : Nat} {l s : AL} {h : AH} : ev d (lf (.bipush 81) []) (l, s, h) = some (.inl 0, l, .int (nI 81) :: s, h) := by
  rw [ev_lf]
  show some ((.inl 0 : AO), l, Value.int ((Int8.ofInt (81)).toInt32) :: s, h) = _
  rw [show (Int8.ofInt (81)).toInt32 = nI 81 by decide +kernel]
theorem x_bipush_81 {d : Nat} {l s : AL} {h : AH} {t : AT} : ev d (sq (lf (.bipush 81) []) t) (l, s, h) = ev d t (l, .int (nI 81) :: s, h) := by rw [ev_sq, y_bipush_81] <;> rfl
theorem y_bipush_82 {d : Nat} {l s : AL} {h : AH} : ev d (lf (.bipush 82) []) (l, s, h) = some (.inl 0, l, .int (nI 82) :: s, h) := by
  rw [ev_lf]
  show some ((.inl 0 : AO), l, Value.int ((Int8.ofInt (82)).toInt32) :: s, h) = _
  rw [show (Int8.ofInt (82)).toInt32 = nI 82 by decide +kernel]
theorem x_bipush_82 {d : Nat} {l s : AL} {h : AH} {t : AT} : ev d (sq (lf (.bipush 82) []) t) (l, s, h) = ev d t (l, .int (nI 82) :: s, h) := by rw [ev_sq, y_bipush_82] <;> rfl
theorem y_bipush_83 {d : Nat} {l s : AL} {h : AH} : ev d (lf (.bipush 83) []) (l, s, h) = some (.inl 0, l, .int (nI 83) :: s, h) := by
  rw [ev_lf]
  show some ((.inl 0 : AO), l, Value.int ((Int8.ofInt (83)).toInt32) :: s, h) = _
  rw [show (Int8.ofInt (83)).toInt32 = nI 83 by decide +kernel]
theorem x_bipush_83 {d : Nat} {l s : AL} {h : AH} {t : AT} : ev d (sq (lf (.bipush 83) []) t) (l, s, h) = ev d t (l, .int (nI 83) :: s, h) := by rw [ev_sq, y_bipush_83] <;> rfl
theorem y_bipush_9 {d : Nat} {l s : AL} {h : AH} : ev d (lf (.bipush 9) []) (l, s, h) = some (.inl 0, l, .int (nI 9) :: s, h) := by
  rw [ev_lf]
  show some ((.inl 0 : AO), l, Value.int ((Int8.ofInt (9)).toInt32) :: s, h) = _
  rw [show (Int8.ofInt (9)).toInt32 = nI 9 by decide +kernel]
theorem x_bipush_9 {d : Nat} {l s : AL} {h : AH} {t : AT} : ev d (sq (lf (.bipush 9) []) t) (l, s, h) = ev d t (l, .int (nI 9) :: s, h) := by rw [ev_sq, y_bipush_9] <;> rfl
theorem y_bipush_91 {d : Nat} {l s : AL} {h : AH} : ev d (lf (.bipush 91) []) (l, s, h) = some (.inl 0, l, .int (nI 91) :: s, h) := by
  rw [ev_lf]
  show some ((.inl 0 : AO), l, Value.int ((Int8.ofInt (91)).toInt32) :: s, h) = _
  rw [show (Int8.ofInt (91)).toInt32 = nI 91 by decide +kernel]
theorem x_bipush_91 {d : Nat} {l s : AL} {h : AH} {t : AT} : ev d (sq (lf (.bipush 91) []) t) (l, s, h) = ev d t (l, .int (nI 91) :: s, h) := by rw [ev_sq, y_bipush_91] <;> rfl
theorem y_bipush_93 {d : Nat} {l s : AL} {h : AH} : ev d (lf (.bipush 93) []) (l, s, h) = some (.inl 0, l, .int (nI 93) :: s, h) := by
  rw [ev_lf]
  show some ((.inl 0 : AO), l, Value.int ((Int8.ofInt (93)).toInt32) :: s, h) = _
  rw [show (Int8.ofInt (93)).toInt32 = nI 93 by decide +kernel]
theorem x_bipush_93 {d : Nat} {l s : AL} {h : AH} {t : AT} : ev d (sq (lf (.bipush 93) []) t) (l, s, h) = ev d t (l, .int (nI 93) :: s, h) := by rw [ev_sq, y_bipush_93] <;> rfl
theorem y_bipush_97 {d : Nat} {l s : AL} {h : AH} : ev d (lf (.bipush 97) []) (l, s, h) = some (.inl 0, l, .int (nI 97) :: s, h) := by
  rw [ev_lf]
  show some ((.inl 0 : AO), l, Value.int ((Int8.ofInt (97)).toInt32) :: s, h) = _
  rw [show (Int8.ofInt (97)).toInt32 = nI 97 by decide +kernel]
theorem x_bipush_97 {d : Nat} {l s : AL} {h : AH} {t : AT} : ev d (sq (lf (.bipush 97) []) t) (l, s, h) = ev d t (l, .int (nI 97) :: s, h) := by rw [ev_sq, y_bipush_97] <;> rfl
theorem y_bipush_99 {d : Nat} {l s : AL} {h : AH} : ev d (lf (.bipush 99) []) (l, s, h) = some (.inl 0, l, .int (nI 99) :: s, h) := by
  rw [ev_lf]
  show some ((.inl 0 : AO), l, Value.int ((Int8.ofInt (99)).toInt32) :: s, h) = _
  rw [show (Int8.ofInt (99)).toInt32 = nI 99 by decide +kernel]
theorem x_bipush_99 {d : Nat} {l s : AL} {h : AH} {t : AT} : ev d (sq (lf (.bipush 99) []) t) (l, s, h) = ev d t (l, .int (nI 99) :: s, h) := by rw [ev_sq, y_bipush_99] <;> rfl
theorem y_dup_i {d : Nat} {x : Int32} {l s : AL} {h : AH} : ev d (lf (.dup) []) (l, .int x :: s, h) = some (.inl 0, l, .int x :: .int x :: s, h) := by rw [ev_lf]; rfl
theorem x_dup_i {d : Nat} {x : Int32} {l s : AL} {h : AH} {t : AT} : ev d (sq (lf (.dup) []) t) (l, .int x :: s, h) = ev d t (l, .int x :: .int x :: s, h) := by rw [ev_sq, y_dup_i] <;> rfl
theorem y_dup_r {d : Nat} {x : Nat} {l s : AL} {h : AH} : ev d (lf (.dup) []) (l, .ref x :: s, h) = some (.inl 0, l, .ref x :: .ref x :: s, h) := by rw [ev_lf]; rfl
theorem x_dup_r {d : Nat} {x : Nat} {l s : AL} {h : AH} {t : AT} : ev d (sq (lf (.dup) []) t) (l, .ref x :: s, h) = ev d t (l, .ref x :: .ref x :: s, h) := by rw [ev_sq, y_dup_r] <;> rfl
theorem y_dup2_ir {d : Nat} {x : Int32} {a : Nat} {l s : AL} {h : AH} : ev d (lf (.dup2) []) (l, .int x :: .ref a :: s, h) = some (.inl 0, l, .int x :: .ref a :: .int x :: .ref a :: s, h) := by rw [ev_lf]; rfl
theorem x_dup2_ir {d : Nat} {x : Int32} {a : Nat} {l s : AL} {h : AH} {t : AT} : ev d (sq (lf (.dup2) []) t) (l, .int x :: .ref a :: s, h) = ev d t (l, .int x :: .ref a :: .int x :: .ref a :: s, h) := by rw [ev_sq, y_dup2_ir] <;> rfl
theorem y_gf_8_0 {d : Nat} {M : MM} {a i : Nat} {l s : AL} (hc : cl M a = 8) : ev d (lf (.getfield i) [8, 0]) (l, .ref a :: s, toH M) = some (.inl 0, l, va_rf (fr M a 0) :: s, toH M) := gf_R hc (by decide) (by decide) (by decide)
theorem x_gf_8_0 {d : Nat} {M : MM} {a i : Nat} {l s : AL} {t : AT} (hc : cl M a = 8) : ev d (sq (lf (.getfield i) [8, 0]) t) (l, .ref a :: s, toH M) = ev d t (l, va_rf (fr M a 0) :: s, toH M) := by rw [ev_sq, y_gf_8_0 hc] <;> rfl
theorem y_gf_0_9 {d : Nat} {M : MM} {a i : Nat} {l s : AL} (hc : cl M a = 0) : ev d (lf (.getfield i) [0, 9]) (l, .ref a :: s, toH M) = some (.inl 0, l, .int (fi M a 9) :: s, toH M) := gf_I hc (by decide) (by decide) (by decide)
theorem x_gf_0_9 {d : Nat} {M : MM} {a i : Nat} {l s : AL} {t : AT} (hc : cl M a = 0) : ev d (sq (lf (.getfield i) [0, 9]) t) (l, .ref a :: s, toH M) = ev d t (l, .int (fi M a 9) :: s, toH M) := by rw [ev_sq, y_gf_0_9 hc] <;> rfl
theorem y_gf_7_5 {d : Nat} {M : MM} {a i : Nat} {l s : AL} (hc : cl M a = 7) : ev d (lf (.getfield i) [7, 5]) (l, .ref a :: s, toH M) = some (.inl 0, l, .int (fi M a 5) :: s, toH M) := gf_I hc (by decide) (by decide) (by decide)
theorem x_gf_7_5 {d : Nat} {M : MM} {a i : Nat} {l s : AL} {t : AT} (hc : cl M a = 7) : ev d (sq (lf (.getfield i) [7, 5]) t) (l, .ref a :: s, toH M) = ev d t (l, .int (fi M a 5) :: s, toH M) := by rw [ev_sq, y_gf_7_5 hc] <;> rfl
theorem y_gf_9_5 {d : Nat} {M : MM} {a i : Nat} {l s : AL} (hc : cl M a = 9) : ev d (lf (.getfield i) [9, 5]) (l, .ref a :: s, toH M) = some (.inl 0, l, .int (fi M a 5) :: s, toH M) := gf_I hc (by decide) (by decide) (by decide)
theorem x_gf_9_5 {d : Nat} {M : MM} {a i : Nat} {l s : AL} {t : AT} (hc : cl M a = 9) : ev d (sq (lf (.getfield i) [9, 5]) t) (l, .ref a :: s, toH M) = ev d t (l, .int (fi M a 5) :: s, toH M) := by rw [ev_sq, y_gf_9_5 hc] <;> rfl
theorem y_gf_9_6 {d : Nat} {M : MM} {a i : Nat} {l s : AL} (hc : cl M a = 9) : ev d (lf (.getfield i) [9, 6]) (l, .ref a :: s, toH M) = some (.inl 0, l, .int (fi M a 6) :: s, toH M) := gf_I hc (by decide) (by decide) (by decide)
theorem x_gf_9_6 {d : Nat} {M : MM} {a i : Nat} {l s : AL} {t : AT} (hc : cl M a = 9) : ev d (sq (lf (.getfield i) [9, 6]) t) (l, .ref a :: s, toH M) = ev d t (l, .int (fi M a 6) :: s, toH M) := by rw [ev_sq, y_gf_9_6 hc] <;> rfl
theorem y_gf_0_7 {d : Nat} {M : MM} {a i : Nat} {l s : AL} (hc : cl M a = 0) : ev d (lf (.getfield i) [0, 7]) (l, .ref a :: s, toH M) = some (.inl 0, l, .int (fi M a 7) :: s, toH M) := gf_I hc (by decide) (by decide) (by decide)
theorem x_gf_0_7 {d : Nat} {M : MM} {a i : Nat} {l s : AL} {t : AT} (hc : cl M a = 0) : ev d (sq (lf (.getfield i) [0, 7]) t) (l, .ref a :: s, toH M) = ev d t (l, .int (fi M a 7) :: s, toH M) := by rw [ev_sq, y_gf_0_7 hc] <;> rfl
theorem y_gf_6_0 {d : Nat} {M : MM} {a i : Nat} {l s : AL} (hc : cl M a = 6) : ev d (lf (.getfield i) [6, 0]) (l, .ref a :: s, toH M) = some (.inl 0, l, va_rf (fr M a 0) :: s, toH M) := gf_R hc (by decide) (by decide) (by decide)
theorem x_gf_6_0 {d : Nat} {M : MM} {a i : Nat} {l s : AL} {t : AT} (hc : cl M a = 6) : ev d (sq (lf (.getfield i) [6, 0]) t) (l, .ref a :: s, toH M) = ev d t (l, va_rf (fr M a 0) :: s, toH M) := by rw [ev_sq, y_gf_6_0 hc] <;> rfl
theorem y_gf_8_14 {d : Nat} {M : MM} {a i : Nat} {l s : AL} (hc : cl M a = 8) : ev d (lf (.getfield i) [8, 14]) (l, .ref a :: s, toH M) = some (.inl 0, l, .int (fi M a 14) :: s, toH M) := gf_I hc (by decide) (by decide) (by decide)
theorem x_gf_8_14 {d : Nat} {M : MM} {a i : Nat} {l s : AL} {t : AT} (hc : cl M a = 8) : ev d (sq (lf (.getfield i) [8, 14]) t) (l, .ref a :: s, toH M) = ev d t (l, .int (fi M a 14) :: s, toH M) := by rw [ev_sq, y_gf_8_14 hc] <;> rfl
theorem y_gf_3_10 {d : Nat} {M : MM} {a i : Nat} {l s : AL} (hc : cl M a = 3) : ev d (lf (.getfield i) [3, 10]) (l, .ref a :: s, toH M) = some (.inl 0, l, .int (fi M a 10) :: s, toH M) := gf_I hc (by decide) (by decide) (by decide)
theorem x_gf_3_10 {d : Nat} {M : MM} {a i : Nat} {l s : AL} {t : AT} (hc : cl M a = 3) : ev d (sq (lf (.getfield i) [3, 10]) t) (l, .ref a :: s, toH M) = ev d t (l, .int (fi M a 10) :: s, toH M) := by rw [ev_sq, y_gf_3_10 hc] <;> rfl
theorem y_gf_9_9 {d : Nat} {M : MM} {a i : Nat} {l s : AL} (hc : cl M a = 9) : ev d (lf (.getfield i) [9, 9]) (l, .ref a :: s, toH M) = some (.inl 0, l, va_rf (fr M a 9) :: s, toH M) := gf_R hc (by decide) (by decide) (by decide)
theorem x_gf_9_9 {d : Nat} {M : MM} {a i : Nat} {l s : AL} {t : AT} (hc : cl M a = 9) : ev d (sq (lf (.getfield i) [9, 9]) t) (l, .ref a :: s, toH M) = ev d t (l, va_rf (fr M a 9) :: s, toH M) := by rw [ev_sq, y_gf_9_9 hc] <;> rfl
theorem y_gf_0_10 {d : Nat} {M : MM} {a i : Nat} {l s : AL} (hc : cl M a = 0) : ev d (lf (.getfield i) [0, 10]) (l, .ref a :: s, toH M) = some (.inl 0, l, .int (fi M a 10) :: s, toH M) := gf_I hc (by decide) (by decide) (by decide)
theorem x_gf_0_10 {d : Nat} {M : MM} {a i : Nat} {l s : AL} {t : AT} (hc : cl M a = 0) : ev d (sq (lf (.getfield i) [0, 10]) t) (l, .ref a :: s, toH M) = ev d t (l, .int (fi M a 10) :: s, toH M) := by rw [ev_sq, y_gf_0_10 hc] <;> rfl
theorem y_gf_3_11 {d : Nat} {M : MM} {a i : Nat} {l s : AL} (hc : cl M a = 3) : ev d (lf (.getfield i) [3, 11]) (l, .ref a :: s, toH M) = some (.inl 0, l, va_rf (fr M a 11) :: s, toH M) := gf_R hc (by decide) (by decide) (by decide)
theorem x_gf_3_11 {d : Nat} {M : MM} {a i : Nat} {l s : AL} {t : AT} (hc : cl M a = 3) : ev d (sq (lf (.getfield i) [3, 11]) t) (l, .ref a :: s, toH M) = ev d t (l, va_rf (fr M a 11) :: s, toH M) := by rw [ev_sq, y_gf_3_11 hc] <;> rfl
theorem y_gf_5_6 {d : Nat} {M : MM} {a i : Nat} {l s : AL} (hc : cl M a = 5) : ev d (lf (.getfield i) [5, 6]) (l, .ref a :: s, toH M) = some (.inl 0, l, .int (fi M a 6) :: s, toH M) := gf_I hc (by decide) (by decide) (by decide)
theorem x_gf_5_6 {d : Nat} {M : MM} {a i : Nat} {l s : AL} {t : AT} (hc : cl M a = 5) : ev d (sq (lf (.getfield i) [5, 6]) t) (l, .ref a :: s, toH M) = ev d t (l, .int (fi M a 6) :: s, toH M) := by rw [ev_sq, y_gf_5_6 hc] <;> rfl
theorem y_gf_5_5 {d : Nat} {M : MM} {a i : Nat} {l s : AL} (hc : cl M a = 5) : ev d (lf (.getfield i) [5, 5]) (l, .ref a :: s, toH M) = some (.inl 0, l, .int (fi M a 5) :: s, toH M) := gf_I hc (by decide) (by decide) (by decide)
theorem x_gf_5_5 {d : Nat} {M : MM} {a i : Nat} {l s : AL} {t : AT} (hc : cl M a = 5) : ev d (sq (lf (.getfield i) [5, 5]) t) (l, .ref a :: s, toH M) = ev d t (l, .int (fi M a 5) :: s, toH M) := by rw [ev_sq, y_gf_5_5 hc] <;> rfl
theorem y_gf_2_2 {d : Nat} {M : MM} {a i : Nat} {l s : AL} (hc : cl M a = 2) : ev d (lf (.getfield i) [2, 2]) (l, .ref a :: s, toH M) = some (.inl 0, l, .int (fi M a 2) :: s, toH M) := gf_I hc (by decide) (by decide) (by decide)
theorem x_gf_2_2 {d : Nat} {M : MM} {a i : Nat} {l s : AL} {t : AT} (hc : cl M a = 2) : ev d (sq (lf (.getfield i) [2, 2]) t) (l, .ref a :: s, toH M) = ev d t (l, .int (fi M a 2) :: s, toH M) := by rw [ev_sq, y_gf_2_2 hc] <;> rfl
theorem y_gf_7_6 {d : Nat} {M : MM} {a i : Nat} {l s : AL} (hc : cl M a = 7) : ev d (lf (.getfield i) [7, 6]) (l, .ref a :: s, toH M) = some (.inl 0, l, .int (fi M a 6) :: s, toH M) := gf_I hc (by decide) (by decide) (by decide)
theorem x_gf_7_6 {d : Nat} {M : MM} {a i : Nat} {l s : AL} {t : AT} (hc : cl M a = 7) : ev d (sq (lf (.getfield i) [7, 6]) t) (l, .ref a :: s, toH M) = ev d t (l, .int (fi M a 6) :: s, toH M) := by rw [ev_sq, y_gf_7_6 hc] <;> rfl
theorem y_gf_0_1 {d : Nat} {M : MM} {a i : Nat} {l s : AL} (hc : cl M a = 0) : ev d (lf (.getfield i) [0, 1]) (l, .ref a :: s, toH M) = some (.inl 0, l, va_rf (fr M a 1) :: s, toH M) := gf_R hc (by decide) (by decide) (by decide)
theorem x_gf_0_1 {d : Nat} {M : MM} {a i : Nat} {l s : AL} {t : AT} (hc : cl M a = 0) : ev d (sq (lf (.getfield i) [0, 1]) t) (l, .ref a :: s, toH M) = ev d t (l, va_rf (fr M a 1) :: s, toH M) := by rw [ev_sq, y_gf_0_1 hc] <;> rfl
theorem y_gf_1_1 {d : Nat} {M : MM} {a i : Nat} {l s : AL} (hc : cl M a = 1) : ev d (lf (.getfield i) [1, 1]) (l, .ref a :: s, toH M) = some (.inl 0, l, .int (fi M a 1) :: s, toH M) := gf_I hc (by decide) (by decide) (by decide)
theorem x_gf_1_1 {d : Nat} {M : MM} {a i : Nat} {l s : AL} {t : AT} (hc : cl M a = 1) : ev d (sq (lf (.getfield i) [1, 1]) t) (l, .ref a :: s, toH M) = ev d t (l, .int (fi M a 1) :: s, toH M) := by rw [ev_sq, y_gf_1_1 hc] <;> rfl
theorem y_gf_2_1 {d : Nat} {M : MM} {a i : Nat} {l s : AL} (hc : cl M a = 2) : ev d (lf (.getfield i) [2, 1]) (l, .ref a :: s, toH M) = some (.inl 0, l, va_rf (fr M a 1) :: s, toH M) := gf_R hc (by decide) (by decide) (by decide)
theorem x_gf_2_1 {d : Nat} {M : MM} {a i : Nat} {l s : AL} {t : AT} (hc : cl M a = 2) : ev d (sq (lf (.getfield i) [2, 1]) t) (l, .ref a :: s, toH M) = ev d t (l, va_rf (fr M a 1) :: s, toH M) := by rw [ev_sq, y_gf_2_1 hc] <;> rfl
theorem y_gf_3_1 {d : Nat} {M : MM} {a i : Nat} {l s : AL} (hc : cl M a = 3) : ev d (lf (.getfield i) [3, 1]) (l, .ref a :: s, toH M) = some (.inl 0, l, va_rf (fr M a 1) :: s, toH M) := gf_R hc (by decide) (by decide) (by decide)
theorem x_gf_3_1 {d : Nat} {M : MM} {a i : Nat} {l s : AL} {t : AT} (hc : cl M a = 3) : ev d (sq (lf (.getfield i) [3, 1]) t) (l, .ref a :: s, toH M) = ev d t (l, va_rf (fr M a 1) :: s, toH M) := by rw [ev_sq, y_gf_3_1 hc] <;> rfl
theorem y_gf_4_1 {d : Nat} {M : MM} {a i : Nat} {l s : AL} (hc : cl M a = 4) : ev d (lf (.getfield i) [4, 1]) (l, .ref a :: s, toH M) = some (.inl 0, l, va_rf (fr M a 1) :: s, toH M) := gf_R hc (by decide) (by decide) (by decide)
theorem x_gf_4_1 {d : Nat} {M : MM} {a i : Nat} {l s : AL} {t : AT} (hc : cl M a = 4) : ev d (sq (lf (.getfield i) [4, 1]) t) (l, .ref a :: s, toH M) = ev d t (l, va_rf (fr M a 1) :: s, toH M) := by rw [ev_sq, y_gf_4_1 hc] <;> rfl
theorem y_gf_5_1 {d : Nat} {M : MM} {a i : Nat} {l s : AL} (hc : cl M a = 5) : ev d (lf (.getfield i) [5, 1]) (l, .ref a :: s, toH M) = some (.inl 0, l, va_rf (fr M a 1) :: s, toH M) := gf_R hc (by decide) (by decide) (by decide)
theorem x_gf_5_1 {d : Nat} {M : MM} {a i : Nat} {l s : AL} {t : AT} (hc : cl M a = 5) : ev d (sq (lf (.getfield i) [5, 1]) t) (l, .ref a :: s, toH M) = ev d t (l, va_rf (fr M a 1) :: s, toH M) := by rw [ev_sq, y_gf_5_1 hc] <;> rfl
theorem y_gf_6_1 {d : Nat} {M : MM} {a i : Nat} {l s : AL} (hc : cl M a = 6) : ev d (lf (.getfield i) [6, 1]) (l, .ref a :: s, toH M) = some (.inl 0, l, va_rf (fr M a 1) :: s, toH M) := gf_R hc (by decide) (by decide) (by decide)
theorem x_gf_6_1 {d : Nat} {M : MM} {a i : Nat} {l s : AL} {t : AT} (hc : cl M a = 6) : ev d (sq (lf (.getfield i) [6, 1]) t) (l, .ref a :: s, toH M) = ev d t (l, va_rf (fr M a 1) :: s, toH M) := by rw [ev_sq, y_gf_6_1 hc] <;> rfl
theorem y_gf_3_8 {d : Nat} {M : MM} {a i : Nat} {l s : AL} (hc : cl M a = 3) : ev d (lf (.getfield i) [3, 8]) (l, .ref a :: s, toH M) = some (.inl 0, l, .int (fi M a 8) :: s, toH M) := gf_I hc (by decide) (by decide) (by decide)
theorem x_gf_3_8 {d : Nat} {M : MM} {a i : Nat} {l s : AL} {t : AT} (hc : cl M a = 3) : ev d (sq (lf (.getfield i) [3, 8]) t) (l, .ref a :: s, toH M) = ev d t (l, .int (fi M a 8) :: s, toH M) := by rw [ev_sq, y_gf_3_8 hc] <;> rfl
theorem y_gf_9_7 {d : Nat} {M : MM} {a i : Nat} {l s : AL} (hc : cl M a = 9) : ev d (lf (.getfield i) [9, 7]) (l, .ref a :: s, toH M) = some (.inl 0, l, .int (fi M a 7) :: s, toH M) := gf_I hc (by decide) (by decide) (by decide)
theorem x_gf_9_7 {d : Nat} {M : MM} {a i : Nat} {l s : AL} {t : AT} (hc : cl M a = 9) : ev d (sq (lf (.getfield i) [9, 7]) t) (l, .ref a :: s, toH M) = ev d t (l, .int (fi M a 7) :: s, toH M) := by rw [ev_sq, y_gf_9_7 hc] <;> rfl
theorem y_gf_3_7 {d : Nat} {M : MM} {a i : Nat} {l s : AL} (hc : cl M a = 3) : ev d (lf (.getfield i) [3, 7]) (l, .ref a :: s, toH M) = some (.inl 0, l, .int (fi M a 7) :: s, toH M) := gf_I hc (by decide) (by decide) (by decide)
theorem x_gf_3_7 {d : Nat} {M : MM} {a i : Nat} {l s : AL} {t : AT} (hc : cl M a = 3) : ev d (sq (lf (.getfield i) [3, 7]) t) (l, .ref a :: s, toH M) = ev d t (l, .int (fi M a 7) :: s, toH M) := by rw [ev_sq, y_gf_3_7 hc] <;> rfl
theorem y_gf_9_8 {d : Nat} {M : MM} {a i : Nat} {l s : AL} (hc : cl M a = 9) : ev d (lf (.getfield i) [9, 8]) (l, .ref a :: s, toH M) = some (.inl 0, l, .int (fi M a 8) :: s, toH M) := gf_I hc (by decide) (by decide) (by decide)
theorem x_gf_9_8 {d : Nat} {M : MM} {a i : Nat} {l s : AL} {t : AT} (hc : cl M a = 9) : ev d (sq (lf (.getfield i) [9, 8]) t) (l, .ref a :: s, toH M) = ev d t (l, .int (fi M a 8) :: s, toH M) := by rw [ev_sq, y_gf_9_8 hc] <;> rfl
theorem y_gf_3_9 {d : Nat} {M : MM} {a i : Nat} {l s : AL} (hc : cl M a = 3) : ev d (lf (.getfield i) [3, 9]) (l, .ref a :: s, toH M) = some (.inl 0, l, .int (fi M a 9) :: s, toH M) := gf_I hc (by decide) (by decide) (by decide)
theorem x_gf_3_9 {d : Nat} {M : MM} {a i : Nat} {l s : AL} {t : AT} (hc : cl M a = 3) : ev d (sq (lf (.getfield i) [3, 9]) t) (l, .ref a :: s, toH M) = ev d t (l, .int (fi M a 9) :: s, toH M) := by rw [ev_sq, y_gf_3_9 hc] <;> rfl
theorem y_gf_3_4 {d : Nat} {M : MM} {a i : Nat} {l s : AL} (hc : cl M a = 3) : ev d (lf (.getfield i) [3, 4]) (l, .ref a :: s, toH M) = some (.inl 0, l, .int (fi M a 4) :: s, toH M) := gf_I hc (by decide) (by decide) (by decide)
theorem x_gf_3_4 {d : Nat} {M : MM} {a i : Nat} {l s : AL} {t : AT} (hc : cl M a = 3) : ev d (sq (lf (.getfield i) [3, 4]) t) (l, .ref a :: s, toH M) = ev d t (l, .int (fi M a 4) :: s, toH M) := by rw [ev_sq, y_gf_3_4 hc] <;> rfl
theorem y_gf_3_5 {d : Nat} {M : MM} {a i : Nat} {l s : AL} (hc : cl M a = 3) : ev d (lf (.getfield i) [3, 5]) (l, .ref a :: s, toH M) = some (.inl 0, l, .int (fi M a 5) :: s, toH M) := gf_I hc (by decide) (by decide) (by decide)
theorem x_gf_3_5 {d : Nat} {M : MM} {a i : Nat} {l s : AL} {t : AT} (hc : cl M a = 3) : ev d (sq (lf (.getfield i) [3, 5]) t) (l, .ref a :: s, toH M) = ev d t (l, .int (fi M a 5) :: s, toH M) := by rw [ev_sq, y_gf_3_5 hc] <;> rfl
theorem y_gf_9_10 {d : Nat} {M : MM} {a i : Nat} {l s : AL} (hc : cl M a = 9) : ev d (lf (.getfield i) [9, 10]) (l, .ref a :: s, toH M) = some (.inl 0, l, va_rf (fr M a 10) :: s, toH M) := gf_R hc (by decide) (by decide) (by decide)
theorem x_gf_9_10 {d : Nat} {M : MM} {a i : Nat} {l s : AL} {t : AT} (hc : cl M a = 9) : ev d (sq (lf (.getfield i) [9, 10]) t) (l, .ref a :: s, toH M) = ev d t (l, va_rf (fr M a 10) :: s, toH M) := by rw [ev_sq, y_gf_9_10 hc] <;> rfl
theorem y_gf_3_6 {d : Nat} {M : MM} {a i : Nat} {l s : AL} (hc : cl M a = 3) : ev d (lf (.getfield i) [3, 6]) (l, .ref a :: s, toH M) = some (.inl 0, l, .int (fi M a 6) :: s, toH M) := gf_I hc (by decide) (by decide) (by decide)
theorem x_gf_3_6 {d : Nat} {M : MM} {a i : Nat} {l s : AL} {t : AT} (hc : cl M a = 3) : ev d (sq (lf (.getfield i) [3, 6]) t) (l, .ref a :: s, toH M) = ev d t (l, .int (fi M a 6) :: s, toH M) := by rw [ev_sq, y_gf_3_6 hc] <;> rfl
theorem y_gf_0_2 {d : Nat} {M : MM} {a i : Nat} {l s : AL} (hc : cl M a = 0) : ev d (lf (.getfield i) [0, 2]) (l, .ref a :: s, toH M) = some (.inl 0, l, va_rf (fr M a 2) :: s, toH M) := gf_R hc (by decide) (by decide) (by decide)
theorem x_gf_0_2 {d : Nat} {M : MM} {a i : Nat} {l s : AL} {t : AT} (hc : cl M a = 0) : ev d (sq (lf (.getfield i) [0, 2]) t) (l, .ref a :: s, toH M) = ev d t (l, va_rf (fr M a 2) :: s, toH M) := by rw [ev_sq, y_gf_0_2 hc] <;> rfl
theorem y_gf_1_2 {d : Nat} {M : MM} {a i : Nat} {l s : AL} (hc : cl M a = 1) : ev d (lf (.getfield i) [1, 2]) (l, .ref a :: s, toH M) = some (.inl 0, l, .int (fi M a 2) :: s, toH M) := gf_I hc (by decide) (by decide) (by decide)
theorem x_gf_1_2 {d : Nat} {M : MM} {a i : Nat} {l s : AL} {t : AT} (hc : cl M a = 1) : ev d (sq (lf (.getfield i) [1, 2]) t) (l, .ref a :: s, toH M) = ev d t (l, .int (fi M a 2) :: s, toH M) := by rw [ev_sq, y_gf_1_2 hc] <;> rfl
theorem y_gf_3_2 {d : Nat} {M : MM} {a i : Nat} {l s : AL} (hc : cl M a = 3) : ev d (lf (.getfield i) [3, 2]) (l, .ref a :: s, toH M) = some (.inl 0, l, va_rf (fr M a 2) :: s, toH M) := gf_R hc (by decide) (by decide) (by decide)
theorem x_gf_3_2 {d : Nat} {M : MM} {a i : Nat} {l s : AL} {t : AT} (hc : cl M a = 3) : ev d (sq (lf (.getfield i) [3, 2]) t) (l, .ref a :: s, toH M) = ev d t (l, va_rf (fr M a 2) :: s, toH M) := by rw [ev_sq, y_gf_3_2 hc] <;> rfl
theorem y_gf_4_2 {d : Nat} {M : MM} {a i : Nat} {l s : AL} (hc : cl M a = 4) : ev d (lf (.getfield i) [4, 2]) (l, .ref a :: s, toH M) = some (.inl 0, l, va_rf (fr M a 2) :: s, toH M) := gf_R hc (by decide) (by decide) (by decide)
theorem x_gf_4_2 {d : Nat} {M : MM} {a i : Nat} {l s : AL} {t : AT} (hc : cl M a = 4) : ev d (sq (lf (.getfield i) [4, 2]) t) (l, .ref a :: s, toH M) = ev d t (l, va_rf (fr M a 2) :: s, toH M) := by rw [ev_sq, y_gf_4_2 hc] <;> rfl
theorem y_gf_5_2 {d : Nat} {M : MM} {a i : Nat} {l s : AL} (hc : cl M a = 5) : ev d (lf (.getfield i) [5, 2]) (l, .ref a :: s, toH M) = some (.inl 0, l, va_rf (fr M a 2) :: s, toH M) := gf_R hc (by decide) (by decide) (by decide)
theorem x_gf_5_2 {d : Nat} {M : MM} {a i : Nat} {l s : AL} {t : AT} (hc : cl M a = 5) : ev d (sq (lf (.getfield i) [5, 2]) t) (l, .ref a :: s, toH M) = ev d t (l, va_rf (fr M a 2) :: s, toH M) := by rw [ev_sq, y_gf_5_2 hc] <;> rfl
theorem y_gf_6_2 {d : Nat} {M : MM} {a i : Nat} {l s : AL} (hc : cl M a = 6) : ev d (lf (.getfield i) [6, 2]) (l, .ref a :: s, toH M) = some (.inl 0, l, va_rf (fr M a 2) :: s, toH M) := gf_R hc (by decide) (by decide) (by decide)
theorem x_gf_6_2 {d : Nat} {M : MM} {a i : Nat} {l s : AL} {t : AT} (hc : cl M a = 6) : ev d (sq (lf (.getfield i) [6, 2]) t) (l, .ref a :: s, toH M) = ev d t (l, va_rf (fr M a 2) :: s, toH M) := by rw [ev_sq, y_gf_6_2 hc] <;> rfl
theorem y_gf_9_17 {d : Nat} {M : MM} {a i : Nat} {l s : AL} (hc : cl M a = 9) : ev d (lf (.getfield i) [9, 17]) (l, .ref a :: s, toH M) = some (.inl 0, l, .int (fi M a 17) :: s, toH M) := gf_I hc (by decide) (by decide) (by decide)
theorem x_gf_9_17 {d : Nat} {M : MM} {a i : Nat} {l s : AL} {t : AT} (hc : cl M a = 9) : ev d (sq (lf (.getfield i) [9, 17]) t) (l, .ref a :: s, toH M) = ev d t (l, .int (fi M a 17) :: s, toH M) := by rw [ev_sq, y_gf_9_17 hc] <;> rfl
theorem y_gf_0_0 {d : Nat} {M : MM} {a i : Nat} {l s : AL} (hc : cl M a = 0) : ev d (lf (.getfield i) [0, 0]) (l, .ref a :: s, toH M) = some (.inl 0, l, va_rf (fr M a 0) :: s, toH M) := gf_R hc (by decide) (by decide) (by decide)
theorem x_gf_0_0 {d : Nat} {M : MM} {a i : Nat} {l s : AL} {t : AT} (hc : cl M a = 0) : ev d (sq (lf (.getfield i) [0, 0]) t) (l, .ref a :: s, toH M) = ev d t (l, va_rf (fr M a 0) :: s, toH M) := by rw [ev_sq, y_gf_0_0 hc] <;> rfl
theorem y_gf_9_31 {d : Nat} {M : MM} {a i : Nat} {l s : AL} (hc : cl M a = 9) : ev d (lf (.getfield i) [9, 31]) (l, .ref a :: s, toH M) = some (.inl 0, l, .int (fi M a 31) :: s, toH M) := gf_I hc (by decide) (by decide) (by decide)
theorem x_gf_9_31 {d : Nat} {M : MM} {a i : Nat} {l s : AL} {t : AT} (hc : cl M a = 9) : ev d (sq (lf (.getfield i) [9, 31]) t) (l, .ref a :: s, toH M) = ev d t (l, .int (fi M a 31) :: s, toH M) := by rw [ev_sq, y_gf_9_31 hc] <;> rfl
theorem y_gf_7_1 {d : Nat} {M : MM} {a i : Nat} {l s : AL} (hc : cl M a = 7) : ev d (lf (.getfield i) [7, 1]) (l, .ref a :: s, toH M) = some (.inl 0, l, .int (fi M a 1) :: s, toH M) := gf_I hc (by decide) (by decide) (by decide)
theorem x_gf_7_1 {d : Nat} {M : MM} {a i : Nat} {l s : AL} {t : AT} (hc : cl M a = 7) : ev d (sq (lf (.getfield i) [7, 1]) t) (l, .ref a :: s, toH M) = ev d t (l, .int (fi M a 1) :: s, toH M) := by rw [ev_sq, y_gf_7_1 hc] <;> rfl
theorem y_gf_8_1 {d : Nat} {M : MM} {a i : Nat} {l s : AL} (hc : cl M a = 8) : ev d (lf (.getfield i) [8, 1]) (l, .ref a :: s, toH M) = some (.inl 0, l, va_rf (fr M a 1) :: s, toH M) := gf_R hc (by decide) (by decide) (by decide)
theorem x_gf_8_1 {d : Nat} {M : MM} {a i : Nat} {l s : AL} {t : AT} (hc : cl M a = 8) : ev d (sq (lf (.getfield i) [8, 1]) t) (l, .ref a :: s, toH M) = ev d t (l, va_rf (fr M a 1) :: s, toH M) := by rw [ev_sq, y_gf_8_1 hc] <;> rfl
theorem y_gf_9_32 {d : Nat} {M : MM} {a i : Nat} {l s : AL} (hc : cl M a = 9) : ev d (lf (.getfield i) [9, 32]) (l, .ref a :: s, toH M) = some (.inl 0, l, .int (fi M a 32) :: s, toH M) := gf_I hc (by decide) (by decide) (by decide)
theorem x_gf_9_32 {d : Nat} {M : MM} {a i : Nat} {l s : AL} {t : AT} (hc : cl M a = 9) : ev d (sq (lf (.getfield i) [9, 32]) t) (l, .ref a :: s, toH M) = ev d t (l, .int (fi M a 32) :: s, toH M) := by rw [ev_sq, y_gf_9_32 hc] <;> rfl
theorem y_gf_9_33 {d : Nat} {M : MM} {a i : Nat} {l s : AL} (hc : cl M a = 9) : ev d (lf (.getfield i) [9, 33]) (l, .ref a :: s, toH M) = some (.inl 0, l, .int (fi M a 33) :: s, toH M) := gf_I hc (by decide) (by decide) (by decide)
theorem x_gf_9_33 {d : Nat} {M : MM} {a i : Nat} {l s : AL} {t : AT} (hc : cl M a = 9) : ev d (sq (lf (.getfield i) [9, 33]) t) (l, .ref a :: s, toH M) = ev d t (l, .int (fi M a 33) :: s, toH M) := by rw [ev_sq, y_gf_9_33 hc] <;> rfl
theorem y_gf_0_3 {d : Nat} {M : MM} {a i : Nat} {l s : AL} (hc : cl M a = 0) : ev d (lf (.getfield i) [0, 3]) (l, .ref a :: s, toH M) = some (.inl 0, l, va_rf (fr M a 3) :: s, toH M) := gf_R hc (by decide) (by decide) (by decide)
theorem x_gf_0_3 {d : Nat} {M : MM} {a i : Nat} {l s : AL} {t : AT} (hc : cl M a = 0) : ev d (sq (lf (.getfield i) [0, 3]) t) (l, .ref a :: s, toH M) = ev d t (l, va_rf (fr M a 3) :: s, toH M) := by rw [ev_sq, y_gf_0_3 hc] <;> rfl
theorem y_gf_9_34 {d : Nat} {M : MM} {a i : Nat} {l s : AL} (hc : cl M a = 9) : ev d (lf (.getfield i) [9, 34]) (l, .ref a :: s, toH M) = some (.inl 0, l, .int (fi M a 34) :: s, toH M) := gf_I hc (by decide) (by decide) (by decide)
theorem x_gf_9_34 {d : Nat} {M : MM} {a i : Nat} {l s : AL} {t : AT} (hc : cl M a = 9) : ev d (sq (lf (.getfield i) [9, 34]) t) (l, .ref a :: s, toH M) = ev d t (l, .int (fi M a 34) :: s, toH M) := by rw [ev_sq, y_gf_9_34 hc] <;> rfl
theorem y_gf_9_11 {d : Nat} {M : MM} {a i : Nat} {l s : AL} (hc : cl M a = 9) : ev d (lf (.getfield i) [9, 11]) (l, .ref a :: s, toH M) = some (.inl 0, l, va_rf (fr M a 11) :: s, toH M) := gf_R hc (by decide) (by decide) (by decide)
theorem x_gf_9_11 {d : Nat} {M : MM} {a i : Nat} {l s : AL} {t : AT} (hc : cl M a = 9) : ev d (sq (lf (.getfield i) [9, 11]) t) (l, .ref a :: s, toH M) = ev d t (l, va_rf (fr M a 11) :: s, toH M) := by rw [ev_sq, y_gf_9_11 hc] <;> rfl
theorem y_gf_0_4 {d : Nat} {M : MM} {a i : Nat} {l s : AL} (hc : cl M a = 0) : ev d (lf (.getfield i) [0, 4]) (l, .ref a :: s, toH M) = some (.inl 0, l, va_rf (fr M a 4) :: s, toH M) := gf_R hc (by decide) (by decide) (by decide)
theorem x_gf_0_4 {d : Nat} {M : MM} {a i : Nat} {l s : AL} {t : AT} (hc : cl M a = 0) : ev d (sq (lf (.getfield i) [0, 4]) t) (l, .ref a :: s, toH M) = ev d t (l, va_rf (fr M a 4) :: s, toH M) := by rw [ev_sq, y_gf_0_4 hc] <;> rfl
theorem y_gf_9_18 {d : Nat} {M : MM} {a i : Nat} {l s : AL} (hc : cl M a = 9) : ev d (lf (.getfield i) [9, 18]) (l, .ref a :: s, toH M) = some (.inl 0, l, .int (fi M a 18) :: s, toH M) := gf_I hc (by decide) (by decide) (by decide)
theorem x_gf_9_18 {d : Nat} {M : MM} {a i : Nat} {l s : AL} {t : AT} (hc : cl M a = 9) : ev d (sq (lf (.getfield i) [9, 18]) t) (l, .ref a :: s, toH M) = ev d t (l, .int (fi M a 18) :: s, toH M) := by rw [ev_sq, y_gf_9_18 hc] <;> rfl
theorem y_gf_1_3 {d : Nat} {M : MM} {a i : Nat} {l s : AL} (hc : cl M a = 1) : ev d (lf (.getfield i) [1, 3]) (l, .ref a :: s, toH M) = some (.inl 0, l, .int (fi M a 3) :: s, toH M) := gf_I hc (by decide) (by decide) (by decide)
theorem x_gf_1_3 {d : Nat} {M : MM} {a i : Nat} {l s : AL} {t : AT} (hc : cl M a = 1) : ev d (sq (lf (.getfield i) [1, 3]) t) (l, .ref a :: s, toH M) = ev d t (l, .int (fi M a 3) :: s, toH M) := by rw [ev_sq, y_gf_1_3 hc] <;> rfl
theorem y_gf_3_3 {d : Nat} {M : MM} {a i : Nat} {l s : AL} (hc : cl M a = 3) : ev d (lf (.getfield i) [3, 3]) (l, .ref a :: s, toH M) = some (.inl 0, l, va_rf (fr M a 3) :: s, toH M) := gf_R hc (by decide) (by decide) (by decide)
theorem x_gf_3_3 {d : Nat} {M : MM} {a i : Nat} {l s : AL} {t : AT} (hc : cl M a = 3) : ev d (sq (lf (.getfield i) [3, 3]) t) (l, .ref a :: s, toH M) = ev d t (l, va_rf (fr M a 3) :: s, toH M) := by rw [ev_sq, y_gf_3_3 hc] <;> rfl
theorem y_gf_4_3 {d : Nat} {M : MM} {a i : Nat} {l s : AL} (hc : cl M a = 4) : ev d (lf (.getfield i) [4, 3]) (l, .ref a :: s, toH M) = some (.inl 0, l, .int (fi M a 3) :: s, toH M) := gf_I hc (by decide) (by decide) (by decide)
theorem x_gf_4_3 {d : Nat} {M : MM} {a i : Nat} {l s : AL} {t : AT} (hc : cl M a = 4) : ev d (sq (lf (.getfield i) [4, 3]) t) (l, .ref a :: s, toH M) = ev d t (l, .int (fi M a 3) :: s, toH M) := by rw [ev_sq, y_gf_4_3 hc] <;> rfl
theorem y_gf_5_3 {d : Nat} {M : MM} {a i : Nat} {l s : AL} (hc : cl M a = 5) : ev d (lf (.getfield i) [5, 3]) (l, .ref a :: s, toH M) = some (.inl 0, l, .int (fi M a 3) :: s, toH M) := gf_I hc (by decide) (by decide) (by decide)
theorem x_gf_5_3 {d : Nat} {M : MM} {a i : Nat} {l s : AL} {t : AT} (hc : cl M a = 5) : ev d (sq (lf (.getfield i) [5, 3]) t) (l, .ref a :: s, toH M) = ev d t (l, .int (fi M a 3) :: s, toH M) := by rw [ev_sq, y_gf_5_3 hc] <;> rfl
theorem y_gf_6_3 {d : Nat} {M : MM} {a i : Nat} {l s : AL} (hc : cl M a = 6) : ev d (lf (.getfield i) [6, 3]) (l, .ref a :: s, toH M) = some (.inl 0, l, .int (fi M a 3) :: s, toH M) := gf_I hc (by decide) (by decide) (by decide)
theorem x_gf_6_3 {d : Nat} {M : MM} {a i : Nat} {l s : AL} {t : AT} (hc : cl M a = 6) : ev d (sq (lf (.getfield i) [6, 3]) t) (l, .ref a :: s, toH M) = ev d t (l, .int (fi M a 3) :: s, toH M) := by rw [ev_sq, y_gf_6_3 hc] <;> rfl
theorem y_gf_3_0 {d : Nat} {M : MM} {a i : Nat} {l s : AL} (hc : cl M a = 3) : ev d (lf (.getfield i) [3, 0]) (l, .ref a :: s, toH M) = some (.inl 0, l, va_rf (fr M a 0) :: s, toH M) := gf_R hc (by decide) (by decide) (by decide)
theorem x_gf_3_0 {d : Nat} {M : MM} {a i : Nat} {l s : AL} {t : AT} (hc : cl M a = 3) : ev d (sq (lf (.getfield i) [3, 0]) t) (l, .ref a :: s, toH M) = ev d t (l, va_rf (fr M a 0) :: s, toH M) := by rw [ev_sq, y_gf_3_0 hc] <;> rfl
theorem y_gf_0_5 {d : Nat} {M : MM} {a i : Nat} {l s : AL} (hc : cl M a = 0) : ev d (lf (.getfield i) [0, 5]) (l, .ref a :: s, toH M) = some (.inl 0, l, va_rf (fr M a 5) :: s, toH M) := gf_R hc (by decide) (by decide) (by decide)
theorem x_gf_0_5 {d : Nat} {M : MM} {a i : Nat} {l s : AL} {t : AT} (hc : cl M a = 0) : ev d (sq (lf (.getfield i) [0, 5]) t) (l, .ref a :: s, toH M) = ev d t (l, va_rf (fr M a 5) :: s, toH M) := by rw [ev_sq, y_gf_0_5 hc] <;> rfl
theorem y_gf_9_12 {d : Nat} {M : MM} {a i : Nat} {l s : AL} (hc : cl M a = 9) : ev d (lf (.getfield i) [9, 12]) (l, .ref a :: s, toH M) = some (.inl 0, l, va_rf (fr M a 12) :: s, toH M) := gf_R hc (by decide) (by decide) (by decide)
theorem x_gf_9_12 {d : Nat} {M : MM} {a i : Nat} {l s : AL} {t : AT} (hc : cl M a = 9) : ev d (sq (lf (.getfield i) [9, 12]) t) (l, .ref a :: s, toH M) = ev d t (l, va_rf (fr M a 12) :: s, toH M) := by rw [ev_sq, y_gf_9_12 hc] <;> rfl
theorem y_gf_1_4 {d : Nat} {M : MM} {a i : Nat} {l s : AL} (hc : cl M a = 1) : ev d (lf (.getfield i) [1, 4]) (l, .ref a :: s, toH M) = some (.inl 0, l, .int (fi M a 4) :: s, toH M) := gf_I hc (by decide) (by decide) (by decide)
theorem x_gf_1_4 {d : Nat} {M : MM} {a i : Nat} {l s : AL} {t : AT} (hc : cl M a = 1) : ev d (sq (lf (.getfield i) [1, 4]) t) (l, .ref a :: s, toH M) = ev d t (l, .int (fi M a 4) :: s, toH M) := by rw [ev_sq, y_gf_1_4 hc] <;> rfl
theorem y_gf_9_26 {d : Nat} {M : MM} {a i : Nat} {l s : AL} (hc : cl M a = 9) : ev d (lf (.getfield i) [9, 26]) (l, .ref a :: s, toH M) = some (.inl 0, l, .int (fi M a 26) :: s, toH M) := gf_I hc (by decide) (by decide) (by decide)
theorem x_gf_9_26 {d : Nat} {M : MM} {a i : Nat} {l s : AL} {t : AT} (hc : cl M a = 9) : ev d (sq (lf (.getfield i) [9, 26]) t) (l, .ref a :: s, toH M) = ev d t (l, .int (fi M a 26) :: s, toH M) := by rw [ev_sq, y_gf_9_26 hc] <;> rfl
theorem y_gf_8_2 {d : Nat} {M : MM} {a i : Nat} {l s : AL} (hc : cl M a = 8) : ev d (lf (.getfield i) [8, 2]) (l, .ref a :: s, toH M) = some (.inl 0, l, va_rf (fr M a 2) :: s, toH M) := gf_R hc (by decide) (by decide) (by decide)
theorem x_gf_8_2 {d : Nat} {M : MM} {a i : Nat} {l s : AL} {t : AT} (hc : cl M a = 8) : ev d (sq (lf (.getfield i) [8, 2]) t) (l, .ref a :: s, toH M) = ev d t (l, va_rf (fr M a 2) :: s, toH M) := by rw [ev_sq, y_gf_8_2 hc] <;> rfl
theorem y_gf_9_13 {d : Nat} {M : MM} {a i : Nat} {l s : AL} (hc : cl M a = 9) : ev d (lf (.getfield i) [9, 13]) (l, .ref a :: s, toH M) = some (.inl 0, l, va_rf (fr M a 13) :: s, toH M) := gf_R hc (by decide) (by decide) (by decide)
theorem x_gf_9_13 {d : Nat} {M : MM} {a i : Nat} {l s : AL} {t : AT} (hc : cl M a = 9) : ev d (sq (lf (.getfield i) [9, 13]) t) (l, .ref a :: s, toH M) = ev d t (l, va_rf (fr M a 13) :: s, toH M) := by rw [ev_sq, y_gf_9_13 hc] <;> rfl
theorem y_gf_0_8 {d : Nat} {M : MM} {a i : Nat} {l s : AL} (hc : cl M a = 0) : ev d (lf (.getfield i) [0, 8]) (l, .ref a :: s, toH M) = some (.inl 0, l, .int (fi M a 8) :: s, toH M) := gf_I hc (by decide) (by decide) (by decide)
theorem x_gf_0_8 {d : Nat} {M : MM} {a i : Nat} {l s : AL} {t : AT} (hc : cl M a = 0) : ev d (sq (lf (.getfield i) [0, 8]) t) (l, .ref a :: s, toH M) = ev d t (l, .int (fi M a 8) :: s, toH M) := by rw [ev_sq, y_gf_0_8 hc] <;> rfl
theorem y_gf_9_36 {d : Nat} {M : MM} {a i : Nat} {l s : AL} (hc : cl M a = 9) : ev d (lf (.getfield i) [9, 36]) (l, .ref a :: s, toH M) = some (.inl 0, l, .int (fi M a 36) :: s, toH M) := gf_I hc (by decide) (by decide) (by decide)
theorem x_gf_9_36 {d : Nat} {M : MM} {a i : Nat} {l s : AL} {t : AT} (hc : cl M a = 9) : ev d (sq (lf (.getfield i) [9, 36]) t) (l, .ref a :: s, toH M) = ev d t (l, .int (fi M a 36) :: s, toH M) := by rw [ev_sq, y_gf_9_36 hc] <;> rfl
theorem y_gf_7_2 {d : Nat} {M : MM} {a i : Nat} {l s : AL} (hc : cl M a = 7) : ev d (lf (.getfield i) [7, 2]) (l, .ref a :: s, toH M) = some (.inl 0, l, .int (fi M a 2) :: s, toH M) := gf_I hc (by decide) (by decide) (by decide)
theorem x_gf_7_2 {d : Nat} {M : MM} {a i : Nat} {l s : AL} {t : AT} (hc : cl M a = 7) : ev d (sq (lf (.getfield i) [7, 2]) t) (l, .ref a :: s, toH M) = ev d t (l, .int (fi M a 2) :: s, toH M) := by rw [ev_sq, y_gf_7_2 hc] <;> rfl
theorem y_gf_9_37 {d : Nat} {M : MM} {a i : Nat} {l s : AL} (hc : cl M a = 9) : ev d (lf (.getfield i) [9, 37]) (l, .ref a :: s, toH M) = some (.inl 0, l, .int (fi M a 37) :: s, toH M) := gf_I hc (by decide) (by decide) (by decide)
theorem x_gf_9_37 {d : Nat} {M : MM} {a i : Nat} {l s : AL} {t : AT} (hc : cl M a = 9) : ev d (sq (lf (.getfield i) [9, 37]) t) (l, .ref a :: s, toH M) = ev d t (l, .int (fi M a 37) :: s, toH M) := by rw [ev_sq, y_gf_9_37 hc] <;> rfl
theorem y_gf_9_14 {d : Nat} {M : MM} {a i : Nat} {l s : AL} (hc : cl M a = 9) : ev d (lf (.getfield i) [9, 14]) (l, .ref a :: s, toH M) = some (.inl 0, l, va_rf (fr M a 14) :: s, toH M) := gf_R hc (by decide) (by decide) (by decide)
theorem x_gf_9_14 {d : Nat} {M : MM} {a i : Nat} {l s : AL} {t : AT} (hc : cl M a = 9) : ev d (sq (lf (.getfield i) [9, 14]) t) (l, .ref a :: s, toH M) = ev d t (l, va_rf (fr M a 14) :: s, toH M) := by rw [ev_sq, y_gf_9_14 hc] <;> rfl
theorem y_gf_0_6 {d : Nat} {M : MM} {a i : Nat} {l s : AL} (hc : cl M a = 0) : ev d (lf (.getfield i) [0, 6]) (l, .ref a :: s, toH M) = some (.inl 0, l, va_rf (fr M a 6) :: s, toH M) := gf_R hc (by decide) (by decide) (by decide)
theorem x_gf_0_6 {d : Nat} {M : MM} {a i : Nat} {l s : AL} {t : AT} (hc : cl M a = 0) : ev d (sq (lf (.getfield i) [0, 6]) t) (l, .ref a :: s, toH M) = ev d t (l, va_rf (fr M a 6) :: s, toH M) := by rw [ev_sq, y_gf_0_6 hc] <;> rfl
theorem y_gf_7_3 {d : Nat} {M : MM} {a i : Nat} {l s : AL} (hc : cl M a = 7) : ev d (lf (.getfield i) [7, 3]) (l, .ref a :: s, toH M) = some (.inl 0, l, .int (fi M a 3) :: s, toH M) := gf_I hc (by decide) (by decide) (by decide)
theorem x_gf_7_3 {d : Nat} {M : MM} {a i : Nat} {l s : AL} {t : AT} (hc : cl M a = 7) : ev d (sq (lf (.getfield i) [7, 3]) t) (l, .ref a :: s, toH M) = ev d t (l, .int (fi M a 3) :: s, toH M) := by rw [ev_sq, y_gf_7_3 hc] <;> rfl
theorem y_gf_9_38 {d : Nat} {M : MM} {a i : Nat} {l s : AL} (hc : cl M a = 9) : ev d (lf (.getfield i) [9, 38]) (l, .ref a :: s, toH M) = some (.inl 0, l, .int (fi M a 38) :: s, toH M) := gf_I hc (by decide) (by decide) (by decide)
theorem x_gf_9_38 {d : Nat} {M : MM} {a i : Nat} {l s : AL} {t : AT} (hc : cl M a = 9) : ev d (sq (lf (.getfield i) [9, 38]) t) (l, .ref a :: s, toH M) = ev d t (l, .int (fi M a 38) :: s, toH M) := by rw [ev_sq, y_gf_9_38 hc] <;> rfl
theorem y_gf_9_39 {d : Nat} {M : MM} {a i : Nat} {l s : AL} (hc : cl M a = 9) : ev d (lf (.getfield i) [9, 39]) (l, .ref a :: s, toH M) = some (.inl 0, l, .int (fi M a 39) :: s, toH M) := gf_I hc (by decide) (by decide) (by decide)
theorem x_gf_9_39 {d : Nat} {M : MM} {a i : Nat} {l s : AL} {t : AT} (hc : cl M a = 9) : ev d (sq (lf (.getfield i) [9, 39]) t) (l, .ref a :: s, toH M) = ev d t (l, .int (fi M a 39) :: s, toH M) := by rw [ev_sq, y_gf_9_39 hc] <;> rfl
theorem y_gf_9_40 {d : Nat} {M : MM} {a i : Nat} {l s : AL} (hc : cl M a = 9) : ev d (lf (.getfield i) [9, 40]) (l, .ref a :: s, toH M) = some (.inl 0, l, .int (fi M a 40) :: s, toH M) := gf_I hc (by decide) (by decide) (by decide)
theorem x_gf_9_40 {d : Nat} {M : MM} {a i : Nat} {l s : AL} {t : AT} (hc : cl M a = 9) : ev d (sq (lf (.getfield i) [9, 40]) t) (l, .ref a :: s, toH M) = ev d t (l, .int (fi M a 40) :: s, toH M) := by rw [ev_sq, y_gf_9_40 hc] <;> rfl
theorem y_gf_8_3 {d : Nat} {M : MM} {a i : Nat} {l s : AL} (hc : cl M a = 8) : ev d (lf (.getfield i) [8, 3]) (l, .ref a :: s, toH M) = some (.inl 0, l, va_rf (fr M a 3) :: s, toH M) := gf_R hc (by decide) (by decide) (by decide)
theorem x_gf_8_3 {d : Nat} {M : MM} {a i : Nat} {l s : AL} {t : AT} (hc : cl M a = 8) : ev d (sq (lf (.getfield i) [8, 3]) t) (l, .ref a :: s, toH M) = ev d t (l, va_rf (fr M a 3) :: s, toH M) := by rw [ev_sq, y_gf_8_3 hc] <;> rfl
theorem y_gf_7_4 {d : Nat} {M : MM} {a i : Nat} {l s : AL} (hc : cl M a = 7) : ev d (lf (.getfield i) [7, 4]) (l, .ref a :: s, toH M) = some (.inl 0, l, .int (fi M a 4) :: s, toH M) := gf_I hc (by decide) (by decide) (by decide)
theorem x_gf_7_4 {d : Nat} {M : MM} {a i : Nat} {l s : AL} {t : AT} (hc : cl M a = 7) : ev d (sq (lf (.getfield i) [7, 4]) t) (l, .ref a :: s, toH M) = ev d t (l, .int (fi M a 4) :: s, toH M) := by rw [ev_sq, y_gf_7_4 hc] <;> rfl
theorem y_gf_9_15 {d : Nat} {M : MM} {a i : Nat} {l s : AL} (hc : cl M a = 9) : ev d (lf (.getfield i) [9, 15]) (l, .ref a :: s, toH M) = some (.inl 0, l, va_rf (fr M a 15) :: s, toH M) := gf_R hc (by decide) (by decide) (by decide)
theorem x_gf_9_15 {d : Nat} {M : MM} {a i : Nat} {l s : AL} {t : AT} (hc : cl M a = 9) : ev d (sq (lf (.getfield i) [9, 15]) t) (l, .ref a :: s, toH M) = ev d t (l, va_rf (fr M a 15) :: s, toH M) := by rw [ev_sq, y_gf_9_15 hc] <;> rfl
theorem y_gf_9_44 {d : Nat} {M : MM} {a i : Nat} {l s : AL} (hc : cl M a = 9) : ev d (lf (.getfield i) [9, 44]) (l, .ref a :: s, toH M) = some (.inl 0, l, .int (fi M a 44) :: s, toH M) := gf_I hc (by decide) (by decide) (by decide)
theorem x_gf_9_44 {d : Nat} {M : MM} {a i : Nat} {l s : AL} {t : AT} (hc : cl M a = 9) : ev d (sq (lf (.getfield i) [9, 44]) t) (l, .ref a :: s, toH M) = ev d t (l, .int (fi M a 44) :: s, toH M) := by rw [ev_sq, y_gf_9_44 hc] <;> rfl
theorem y_gf_8_13 {d : Nat} {M : MM} {a i : Nat} {l s : AL} (hc : cl M a = 8) : ev d (lf (.getfield i) [8, 13]) (l, .ref a :: s, toH M) = some (.inl 0, l, .int (fi M a 13) :: s, toH M) := gf_I hc (by decide) (by decide) (by decide)
theorem x_gf_8_13 {d : Nat} {M : MM} {a i : Nat} {l s : AL} {t : AT} (hc : cl M a = 8) : ev d (sq (lf (.getfield i) [8, 13]) t) (l, .ref a :: s, toH M) = ev d t (l, .int (fi M a 13) :: s, toH M) := by rw [ev_sq, y_gf_8_13 hc] <;> rfl
theorem y_gf_8_15 {d : Nat} {M : MM} {a i : Nat} {l s : AL} (hc : cl M a = 8) : ev d (lf (.getfield i) [8, 15]) (l, .ref a :: s, toH M) = some (.inl 0, l, .int (fi M a 15) :: s, toH M) := gf_I hc (by decide) (by decide) (by decide)
theorem x_gf_8_15 {d : Nat} {M : MM} {a i : Nat} {l s : AL} {t : AT} (hc : cl M a = 8) : ev d (sq (lf (.getfield i) [8, 15]) t) (l, .ref a :: s, toH M) = ev d t (l, .int (fi M a 15) :: s, toH M) := by rw [ev_sq, y_gf_8_15 hc] <;> rfl
theorem y_gf_9_16 {d : Nat} {M : MM} {a i : Nat} {l s : AL} (hc : cl M a = 9) : ev d (lf (.getfield i) [9, 16]) (l, .ref a :: s, toH M) = some (.inl 0, l, va_rf (fr M a 16) :: s, toH M) := gf_R hc (by decide) (by decide) (by decide)
theorem x_gf_9_16 {d : Nat} {M : MM} {a i : Nat} {l s : AL} {t : AT} (hc : cl M a = 9) : ev d (sq (lf (.getfield i) [9, 16]) t) (l, .ref a :: s, toH M) = ev d t (l, va_rf (fr M a 16) :: s, toH M) := by rw [ev_sq, y_gf_9_16 hc] <;> rfl
theorem y_gf_8_16 {d : Nat} {M : MM} {a i : Nat} {l s : AL} (hc : cl M a = 8) : ev d (lf (.getfield i) [8, 16]) (l, .ref a :: s, toH M) = some (.inl 0, l, .int (fi M a 16) :: s, toH M) := gf_I hc (by decide) (by decide) (by decide)
theorem x_gf_8_16 {d : Nat} {M : MM} {a i : Nat} {l s : AL} {t : AT} (hc : cl M a = 8) : ev d (sq (lf (.getfield i) [8, 16]) t) (l, .ref a :: s, toH M) = ev d t (l, .int (fi M a 16) :: s, toH M) := by rw [ev_sq, y_gf_8_16 hc] <;> rfl
theorem y_gf_9_45 {d : Nat} {M : MM} {a i : Nat} {l s : AL} (hc : cl M a = 9) : ev d (lf (.getfield i) [9, 45]) (l, .ref a :: s, toH M) = some (.inl 0, l, .int (fi M a 45) :: s, toH M) := gf_I hc (by decide) (by decide) (by decide)
theorem x_gf_9_45 {d : Nat} {M : MM} {a i : Nat} {l s : AL} {t : AT} (hc : cl M a = 9) : ev d (sq (lf (.getfield i) [9, 45]) t) (l, .ref a :: s, toH M) = ev d t (l, .int (fi M a 45) :: s, toH M) := by rw [ev_sq, y_gf_9_45 hc] <;> rfl
theorem y_gf_9_46 {d : Nat} {M : MM} {a i : Nat} {l s : AL} (hc : cl M a = 9) : ev d (lf (.getfield i) [9, 46]) (l, .ref a :: s, toH M) = some (.inl 0, l, .int (fi M a 46) :: s, toH M) := gf_I hc (by decide) (by decide) (by decide)
theorem x_gf_9_46 {d : Nat} {M : MM} {a i : Nat} {l s : AL} {t : AT} (hc : cl M a = 9) : ev d (sq (lf (.getfield i) [9, 46]) t) (l, .ref a :: s, toH M) = ev d t (l, .int (fi M a 46) :: s, toH M) := by rw [ev_sq, y_gf_9_46 hc] <;> rfl
theorem y_gf_9_35 {d : Nat} {M : MM} {a i : Nat} {l s : AL} (hc : cl M a = 9) : ev d (lf (.getfield i) [9, 35]) (l, .ref a :: s, toH M) = some (.inl 0, l, .int (fi M a 35) :: s, toH M) := gf_I hc (by decide) (by decide) (by decide)
theorem x_gf_9_35 {d : Nat} {M : MM} {a i : Nat} {l s : AL} {t : AT} (hc : cl M a = 9) : ev d (sq (lf (.getfield i) [9, 35]) t) (l, .ref a :: s, toH M) = ev d t (l, .int (fi M a 35) :: s, toH M) := by rw [ev_sq, y_gf_9_35 hc] <;> rfl
theorem y_gf_8_4 {d : Nat} {M : MM} {a i : Nat} {l s : AL} (hc : cl M a = 8) : ev d (lf (.getfield i) [8, 4]) (l, .ref a :: s, toH M) = some (.inl 0, l, va_rf (fr M a 4) :: s, toH M) := gf_R hc (by decide) (by decide) (by decide)
theorem x_gf_8_4 {d : Nat} {M : MM} {a i : Nat} {l s : AL} {t : AT} (hc : cl M a = 8) : ev d (sq (lf (.getfield i) [8, 4]) t) (l, .ref a :: s, toH M) = ev d t (l, va_rf (fr M a 4) :: s, toH M) := by rw [ev_sq, y_gf_8_4 hc] <;> rfl
theorem y_gf_9_19 {d : Nat} {M : MM} {a i : Nat} {l s : AL} (hc : cl M a = 9) : ev d (lf (.getfield i) [9, 19]) (l, .ref a :: s, toH M) = some (.inl 0, l, va_rf (fr M a 19) :: s, toH M) := gf_R hc (by decide) (by decide) (by decide)
theorem x_gf_9_19 {d : Nat} {M : MM} {a i : Nat} {l s : AL} {t : AT} (hc : cl M a = 9) : ev d (sq (lf (.getfield i) [9, 19]) t) (l, .ref a :: s, toH M) = ev d t (l, va_rf (fr M a 19) :: s, toH M) := by rw [ev_sq, y_gf_9_19 hc] <;> rfl
theorem y_gf_9_20 {d : Nat} {M : MM} {a i : Nat} {l s : AL} (hc : cl M a = 9) : ev d (lf (.getfield i) [9, 20]) (l, .ref a :: s, toH M) = some (.inl 0, l, va_rf (fr M a 20) :: s, toH M) := gf_R hc (by decide) (by decide) (by decide)
theorem x_gf_9_20 {d : Nat} {M : MM} {a i : Nat} {l s : AL} {t : AT} (hc : cl M a = 9) : ev d (sq (lf (.getfield i) [9, 20]) t) (l, .ref a :: s, toH M) = ev d t (l, va_rf (fr M a 20) :: s, toH M) := by rw [ev_sq, y_gf_9_20 hc] <;> rfl
theorem y_gf_8_5 {d : Nat} {M : MM} {a i : Nat} {l s : AL} (hc : cl M a = 8) : ev d (lf (.getfield i) [8, 5]) (l, .ref a :: s, toH M) = some (.inl 0, l, va_rf (fr M a 5) :: s, toH M) := gf_R hc (by decide) (by decide) (by decide)
theorem x_gf_8_5 {d : Nat} {M : MM} {a i : Nat} {l s : AL} {t : AT} (hc : cl M a = 8) : ev d (sq (lf (.getfield i) [8, 5]) t) (l, .ref a :: s, toH M) = ev d t (l, va_rf (fr M a 5) :: s, toH M) := by rw [ev_sq, y_gf_8_5 hc] <;> rfl
theorem y_gf_9_21 {d : Nat} {M : MM} {a i : Nat} {l s : AL} (hc : cl M a = 9) : ev d (lf (.getfield i) [9, 21]) (l, .ref a :: s, toH M) = some (.inl 0, l, va_rf (fr M a 21) :: s, toH M) := gf_R hc (by decide) (by decide) (by decide)
theorem x_gf_9_21 {d : Nat} {M : MM} {a i : Nat} {l s : AL} {t : AT} (hc : cl M a = 9) : ev d (sq (lf (.getfield i) [9, 21]) t) (l, .ref a :: s, toH M) = ev d t (l, va_rf (fr M a 21) :: s, toH M) := by rw [ev_sq, y_gf_9_21 hc] <;> rfl
theorem y_gf_9_22 {d : Nat} {M : MM} {a i : Nat} {l s : AL} (hc : cl M a = 9) : ev d (lf (.getfield i) [9, 22]) (l, .ref a :: s, toH M) = some (.inl 0, l, va_rf (fr M a 22) :: s, toH M) := gf_R hc (by decide) (by decide) (by decide)
theorem x_gf_9_22 {d : Nat} {M : MM} {a i : Nat} {l s : AL} {t : AT} (hc : cl M a = 9) : ev d (sq (lf (.getfield i) [9, 22]) t) (l, .ref a :: s, toH M) = ev d t (l, va_rf (fr M a 22) :: s, toH M) := by rw [ev_sq, y_gf_9_22 hc] <;> rfl
theorem y_gf_8_6 {d : Nat} {M : MM} {a i : Nat} {l s : AL} (hc : cl M a = 8) : ev d (lf (.getfield i) [8, 6]) (l, .ref a :: s, toH M) = some (.inl 0, l, va_rf (fr M a 6) :: s, toH M) := gf_R hc (by decide) (by decide) (by decide)
theorem x_gf_8_6 {d : Nat} {M : MM} {a i : Nat} {l s : AL} {t : AT} (hc : cl M a = 8) : ev d (sq (lf (.getfield i) [8, 6]) t) (l, .ref a :: s, toH M) = ev d t (l, va_rf (fr M a 6) :: s, toH M) := by rw [ev_sq, y_gf_8_6 hc] <;> rfl
theorem y_gf_9_23 {d : Nat} {M : MM} {a i : Nat} {l s : AL} (hc : cl M a = 9) : ev d (lf (.getfield i) [9, 23]) (l, .ref a :: s, toH M) = some (.inl 0, l, va_rf (fr M a 23) :: s, toH M) := gf_R hc (by decide) (by decide) (by decide)
theorem x_gf_9_23 {d : Nat} {M : MM} {a i : Nat} {l s : AL} {t : AT} (hc : cl M a = 9) : ev d (sq (lf (.getfield i) [9, 23]) t) (l, .ref a :: s, toH M) = ev d t (l, va_rf (fr M a 23) :: s, toH M) := by rw [ev_sq, y_gf_9_23 hc] <;> rfl
theorem y_gf_8_7 {d : Nat} {M : MM} {a i : Nat} {l s : AL} (hc : cl M a = 8) : ev d (lf (.getfield i) [8, 7]) (l, .ref a :: s, toH M) = some (.inl 0, l, va_rf (fr M a 7) :: s, toH M) := gf_R hc (by decide) (by decide) (by decide)
theorem x_gf_8_7 {d : Nat} {M : MM} {a i : Nat} {l s : AL} {t : AT} (hc : cl M a = 8) : ev d (sq (lf (.getfield i) [8, 7]) t) (l, .ref a :: s, toH M) = ev d t (l, va_rf (fr M a 7) :: s, toH M) := by rw [ev_sq, y_gf_8_7 hc] <;> rfl
theorem y_gf_9_24 {d : Nat} {M : MM} {a i : Nat} {l s : AL} (hc : cl M a = 9) : ev d (lf (.getfield i) [9, 24]) (l, .ref a :: s, toH M) = some (.inl 0, l, va_rf (fr M a 24) :: s, toH M) := gf_R hc (by decide) (by decide) (by decide)
theorem x_gf_9_24 {d : Nat} {M : MM} {a i : Nat} {l s : AL} {t : AT} (hc : cl M a = 9) : ev d (sq (lf (.getfield i) [9, 24]) t) (l, .ref a :: s, toH M) = ev d t (l, va_rf (fr M a 24) :: s, toH M) := by rw [ev_sq, y_gf_9_24 hc] <;> rfl
theorem y_gf_9_25 {d : Nat} {M : MM} {a i : Nat} {l s : AL} (hc : cl M a = 9) : ev d (lf (.getfield i) [9, 25]) (l, .ref a :: s, toH M) = some (.inl 0, l, va_rf (fr M a 25) :: s, toH M) := gf_R hc (by decide) (by decide) (by decide)
theorem x_gf_9_25 {d : Nat} {M : MM} {a i : Nat} {l s : AL} {t : AT} (hc : cl M a = 9) : ev d (sq (lf (.getfield i) [9, 25]) t) (l, .ref a :: s, toH M) = ev d t (l, va_rf (fr M a 25) :: s, toH M) := by rw [ev_sq, y_gf_9_25 hc] <;> rfl
theorem y_gf_8_8 {d : Nat} {M : MM} {a i : Nat} {l s : AL} (hc : cl M a = 8) : ev d (lf (.getfield i) [8, 8]) (l, .ref a :: s, toH M) = some (.inl 0, l, va_rf (fr M a 8) :: s, toH M) := gf_R hc (by decide) (by decide) (by decide)
theorem x_gf_8_8 {d : Nat} {M : MM} {a i : Nat} {l s : AL} {t : AT} (hc : cl M a = 8) : ev d (sq (lf (.getfield i) [8, 8]) t) (l, .ref a :: s, toH M) = ev d t (l, va_rf (fr M a 8) :: s, toH M) := by rw [ev_sq, y_gf_8_8 hc] <;> rfl
theorem y_gf_9_27 {d : Nat} {M : MM} {a i : Nat} {l s : AL} (hc : cl M a = 9) : ev d (lf (.getfield i) [9, 27]) (l, .ref a :: s, toH M) = some (.inl 0, l, va_rf (fr M a 27) :: s, toH M) := gf_R hc (by decide) (by decide) (by decide)
theorem x_gf_9_27 {d : Nat} {M : MM} {a i : Nat} {l s : AL} {t : AT} (hc : cl M a = 9) : ev d (sq (lf (.getfield i) [9, 27]) t) (l, .ref a :: s, toH M) = ev d t (l, va_rf (fr M a 27) :: s, toH M) := by rw [ev_sq, y_gf_9_27 hc] <;> rfl
theorem y_gf_9_28 {d : Nat} {M : MM} {a i : Nat} {l s : AL} (hc : cl M a = 9) : ev d (lf (.getfield i) [9, 28]) (l, .ref a :: s, toH M) = some (.inl 0, l, va_rf (fr M a 28) :: s, toH M) := gf_R hc (by decide) (by decide) (by decide)
theorem x_gf_9_28 {d : Nat} {M : MM} {a i : Nat} {l s : AL} {t : AT} (hc : cl M a = 9) : ev d (sq (lf (.getfield i) [9, 28]) t) (l, .ref a :: s, toH M) = ev d t (l, va_rf (fr M a 28) :: s, toH M) := by rw [ev_sq, y_gf_9_28 hc] <;> rfl
theorem y_gf_8_9 {d : Nat} {M : MM} {a i : Nat} {l s : AL} (hc : cl M a = 8) : ev d (lf (.getfield i) [8, 9]) (l, .ref a :: s, toH M) = some (.inl 0, l, va_rf (fr M a 9) :: s, toH M) := gf_R hc (by decide) (by decide) (by decide)
theorem x_gf_8_9 {d : Nat} {M : MM} {a i : Nat} {l s : AL} {t : AT} (hc : cl M a = 8) : ev d (sq (lf (.getfield i) [8, 9]) t) (l, .ref a :: s, toH M) = ev d t (l, va_rf (fr M a 9) :: s, toH M) := by rw [ev_sq, y_gf_8_9 hc] <;> rfl
theorem y_gf_9_29 {d : Nat} {M : MM} {a i : Nat} {l s : AL} (hc : cl M a = 9) : ev d (lf (.getfield i) [9, 29]) (l, .ref a :: s, toH M) = some (.inl 0, l, va_rf (fr M a 29) :: s, toH M) := gf_R hc (by decide) (by decide) (by decide)
theorem x_gf_9_29 {d : Nat} {M : MM} {a i : Nat} {l s : AL} {t : AT} (hc : cl M a = 9) : ev d (sq (lf (.getfield i) [9, 29]) t) (l, .ref a :: s, toH M) = ev d t (l, va_rf (fr M a 29) :: s, toH M) := by rw [ev_sq, y_gf_9_29 hc] <;> rfl
theorem y_gf_9_30 {d : Nat} {M : MM} {a i : Nat} {l s : AL} (hc : cl M a = 9) : ev d (lf (.getfield i) [9, 30]) (l, .ref a :: s, toH M) = some (.inl 0, l, va_rf (fr M a 30) :: s, toH M) := gf_R hc (by decide) (by decide) (by decide)
theorem x_gf_9_30 {d : Nat} {M : MM} {a i : Nat} {l s : AL} {t : AT} (hc : cl M a = 9) : ev d (sq (lf (.getfield i) [9, 30]) t) (l, .ref a :: s, toH M) = ev d t (l, va_rf (fr M a 30) :: s, toH M) := by rw [ev_sq, y_gf_9_30 hc] <;> rfl
theorem y_gf_8_10 {d : Nat} {M : MM} {a i : Nat} {l s : AL} (hc : cl M a = 8) : ev d (lf (.getfield i) [8, 10]) (l, .ref a :: s, toH M) = some (.inl 0, l, va_rf (fr M a 10) :: s, toH M) := gf_R hc (by decide) (by decide) (by decide)
theorem x_gf_8_10 {d : Nat} {M : MM} {a i : Nat} {l s : AL} {t : AT} (hc : cl M a = 8) : ev d (sq (lf (.getfield i) [8, 10]) t) (l, .ref a :: s, toH M) = ev d t (l, va_rf (fr M a 10) :: s, toH M) := by rw [ev_sq, y_gf_8_10 hc] <;> rfl
theorem y_gf_9_41 {d : Nat} {M : MM} {a i : Nat} {l s : AL} (hc : cl M a = 9) : ev d (lf (.getfield i) [9, 41]) (l, .ref a :: s, toH M) = some (.inl 0, l, va_rf (fr M a 41) :: s, toH M) := gf_R hc (by decide) (by decide) (by decide)
theorem x_gf_9_41 {d : Nat} {M : MM} {a i : Nat} {l s : AL} {t : AT} (hc : cl M a = 9) : ev d (sq (lf (.getfield i) [9, 41]) t) (l, .ref a :: s, toH M) = ev d t (l, va_rf (fr M a 41) :: s, toH M) := by rw [ev_sq, y_gf_9_41 hc] <;> rfl
theorem y_gf_8_11 {d : Nat} {M : MM} {a i : Nat} {l s : AL} (hc : cl M a = 8) : ev d (lf (.getfield i) [8, 11]) (l, .ref a :: s, toH M) = some (.inl 0, l, va_rf (fr M a 11) :: s, toH M) := gf_R hc (by decide) (by decide) (by decide)
theorem x_gf_8_11 {d : Nat} {M : MM} {a i : Nat} {l s : AL} {t : AT} (hc : cl M a = 8) : ev d (sq (lf (.getfield i) [8, 11]) t) (l, .ref a :: s, toH M) = ev d t (l, va_rf (fr M a 11) :: s, toH M) := by rw [ev_sq, y_gf_8_11 hc] <;> rfl
theorem y_gf_9_42 {d : Nat} {M : MM} {a i : Nat} {l s : AL} (hc : cl M a = 9) : ev d (lf (.getfield i) [9, 42]) (l, .ref a :: s, toH M) = some (.inl 0, l, va_rf (fr M a 42) :: s, toH M) := gf_R hc (by decide) (by decide) (by decide)
theorem x_gf_9_42 {d : Nat} {M : MM} {a i : Nat} {l s : AL} {t : AT} (hc : cl M a = 9) : ev d (sq (lf (.getfield i) [9, 42]) t) (l, .ref a :: s, toH M) = ev d t (l, va_rf (fr M a 42) :: s, toH M) := by rw [ev_sq, y_gf_9_42 hc] <;> rfl
theorem y_gf_8_12 {d : Nat} {M : MM} {a i : Nat} {l s : AL} (hc : cl M a = 8) : ev d (lf (.getfield i) [8, 12]) (l, .ref a :: s, toH M) = some (.inl 0, l, va_rf (fr M a 12) :: s, toH M) := gf_R hc (by decide) (by decide) (by decide)
theorem x_gf_8_12 {d : Nat} {M : MM} {a i : Nat} {l s : AL} {t : AT} (hc : cl M a = 8) : ev d (sq (lf (.getfield i) [8, 12]) t) (l, .ref a :: s, toH M) = ev d t (l, va_rf (fr M a 12) :: s, toH M) := by rw [ev_sq, y_gf_8_12 hc] <;> rfl
theorem y_gf_9_43 {d : Nat} {M : MM} {a i : Nat} {l s : AL} (hc : cl M a = 9) : ev d (lf (.getfield i) [9, 43]) (l, .ref a :: s, toH M) = some (.inl 0, l, va_rf (fr M a 43) :: s, toH M) := gf_R hc (by decide) (by decide) (by decide)
theorem x_gf_9_43 {d : Nat} {M : MM} {a i : Nat} {l s : AL} {t : AT} (hc : cl M a = 9) : ev d (sq (lf (.getfield i) [9, 43]) t) (l, .ref a :: s, toH M) = ev d t (l, va_rf (fr M a 43) :: s, toH M) := by rw [ev_sq, y_gf_9_43 hc] <;> rfl
theorem y_gf_9_0 {d : Nat} {M : MM} {a i : Nat} {l s : AL} (hc : cl M a = 9) : ev d (lf (.getfield i) [9, 0]) (l, .ref a :: s, toH M) = some (.inl 0, l, .int (fi M a 0) :: s, toH M) := gf_I hc (by decide) (by decide) (by decide)
theorem x_gf_9_0 {d : Nat} {M : MM} {a i : Nat} {l s : AL} {t : AT} (hc : cl M a = 9) : ev d (sq (lf (.getfield i) [9, 0]) t) (l, .ref a :: s, toH M) = ev d t (l, .int (fi M a 0) :: s, toH M) := by rw [ev_sq, y_gf_9_0 hc] <;> rfl
theorem y_gf_1_0 {d : Nat} {M : MM} {a i : Nat} {l s : AL} (hc : cl M a = 1) : ev d (lf (.getfield i) [1, 0]) (l, .ref a :: s, toH M) = some (.inl 0, l, .int (fi M a 0) :: s, toH M) := gf_I hc (by decide) (by decide) (by decide)
theorem x_gf_1_0 {d : Nat} {M : MM} {a i : Nat} {l s : AL} {t : AT} (hc : cl M a = 1) : ev d (sq (lf (.getfield i) [1, 0]) t) (l, .ref a :: s, toH M) = ev d t (l, .int (fi M a 0) :: s, toH M) := by rw [ev_sq, y_gf_1_0 hc] <;> rfl
theorem y_gf_2_0 {d : Nat} {M : MM} {a i : Nat} {l s : AL} (hc : cl M a = 2) : ev d (lf (.getfield i) [2, 0]) (l, .ref a :: s, toH M) = some (.inl 0, l, va_rf (fr M a 0) :: s, toH M) := gf_R hc (by decide) (by decide) (by decide)
theorem x_gf_2_0 {d : Nat} {M : MM} {a i : Nat} {l s : AL} {t : AT} (hc : cl M a = 2) : ev d (sq (lf (.getfield i) [2, 0]) t) (l, .ref a :: s, toH M) = ev d t (l, va_rf (fr M a 0) :: s, toH M) := by rw [ev_sq, y_gf_2_0 hc] <;> rfl
theorem y_gf_4_0 {d : Nat} {M : MM} {a i : Nat} {l s : AL} (hc : cl M a = 4) : ev d (lf (.getfield i) [4, 0]) (l, .ref a :: s, toH M) = some (.inl 0, l, va_rf (fr M a 0) :: s, toH M) := gf_R hc (by decide) (by decide) (by decide)
theorem x_gf_4_0 {d : Nat} {M : MM} {a i : Nat} {l s : AL} {t : AT} (hc : cl M a = 4) : ev d (sq (lf (.getfield i) [4, 0]) t) (l, .ref a :: s, toH M) = ev d t (l, va_rf (fr M a 0) :: s, toH M) := by rw [ev_sq, y_gf_4_0 hc] <;> rfl
theorem y_gf_5_0 {d : Nat} {M : MM} {a i : Nat} {l s : AL} (hc : cl M a = 5) : ev d (lf (.getfield i) [5, 0]) (l, .ref a :: s, toH M) = some (.inl 0, l, va_rf (fr M a 0) :: s, toH M) := gf_R hc (by decide) (by decide) (by decide)
theorem x_gf_5_0 {d : Nat} {M : MM} {a i : Nat} {l s : AL} {t : AT} (hc : cl M a = 5) : ev d (sq (lf (.getfield i) [5, 0]) t) (l, .ref a :: s, toH M) = ev d t (l, va_rf (fr M a 0) :: s, toH M) := by rw [ev_sq, y_gf_5_0 hc] <;> rfl
theorem y_gf_7_0 {d : Nat} {M : MM} {a i : Nat} {l s : AL} (hc : cl M a = 7) : ev d (lf (.getfield i) [7, 0]) (l, .ref a :: s, toH M) = some (.inl 0, l, va_rf (fr M a 0) :: s, toH M) := gf_R hc (by decide) (by decide) (by decide)
theorem x_gf_7_0 {d : Nat} {M : MM} {a i : Nat} {l s : AL} {t : AT} (hc : cl M a = 7) : ev d (sq (lf (.getfield i) [7, 0]) t) (l, .ref a :: s, toH M) = ev d t (l, va_rf (fr M a 0) :: s, toH M) := by rw [ev_sq, y_gf_7_0 hc] <;> rfl
theorem y_gf_9_3 {d : Nat} {M : MM} {a i : Nat} {l s : AL} (hc : cl M a = 9) : ev d (lf (.getfield i) [9, 3]) (l, .ref a :: s, toH M) = some (.inl 0, l, .int (fi M a 3) :: s, toH M) := gf_I hc (by decide) (by decide) (by decide)
theorem x_gf_9_3 {d : Nat} {M : MM} {a i : Nat} {l s : AL} {t : AT} (hc : cl M a = 9) : ev d (sq (lf (.getfield i) [9, 3]) t) (l, .ref a :: s, toH M) = ev d t (l, .int (fi M a 3) :: s, toH M) := by rw [ev_sq, y_gf_9_3 hc] <;> rfl
theorem y_gf_5_4 {d : Nat} {M : MM} {a i : Nat} {l s : AL} (hc : cl M a = 5) : ev d (lf (.getfield i) [5, 4]) (l, .ref a :: s, toH M) = some (.inl 0, l, .int (fi M a 4) :: s, toH M) := gf_I hc (by decide) (by decide) (by decide)
theorem x_gf_5_4 {d : Nat} {M : MM} {a i : Nat} {l s : AL} {t : AT} (hc : cl M a = 5) : ev d (sq (lf (.getfield i) [5, 4]) t) (l, .ref a :: s, toH M) = ev d t (l, .int (fi M a 4) :: s, toH M) := by rw [ev_sq, y_gf_5_4 hc] <;> rfl
theorem y_gf_9_1 {d : Nat} {M : MM} {a i : Nat} {l s : AL} (hc : cl M a = 9) : ev d (lf (.getfield i) [9, 1]) (l, .ref a :: s, toH M) = some (.inl 0, l, .int (fi M a 1) :: s, toH M) := gf_I hc (by decide) (by decide) (by decide)
theorem x_gf_9_1 {d : Nat} {M : MM} {a i : Nat} {l s : AL} {t : AT} (hc : cl M a = 9) : ev d (sq (lf (.getfield i) [9, 1]) t) (l, .ref a :: s, toH M) = ev d t (l, .int (fi M a 1) :: s, toH M) := by rw [ev_sq, y_gf_9_1 hc] <;> rfl
theorem y_gf_9_2 {d : Nat} {M : MM} {a i : Nat} {l s : AL} (hc : cl M a = 9) : ev d (lf (.getfield i) [9, 2]) (l, .ref a :: s, toH M) = some (.inl 0, l, .int (fi M a 2) :: s, toH M) := gf_I hc (by decide) (by decide) (by decide)
theorem x_gf_9_2 {d : Nat} {M : MM} {a i : Nat} {l s : AL} {t : AT} (hc : cl M a = 9) : ev d (sq (lf (.getfield i) [9, 2]) t) (l, .ref a :: s, toH M) = ev d t (l, .int (fi M a 2) :: s, toH M) := by rw [ev_sq, y_gf_9_2 hc] <;> rfl
theorem y_gf_9_4 {d : Nat} {M : MM} {a i : Nat} {l s : AL} (hc : cl M a = 9) : ev d (lf (.getfield i) [9, 4]) (l, .ref a :: s, toH M) = some (.inl 0, l, .int (fi M a 4) :: s, toH M) := gf_I hc (by decide) (by decide) (by decide)
theorem x_gf_9_4 {d : Nat} {M : MM} {a i : Nat} {l s : AL} {t : AT} (hc : cl M a = 9) : ev d (sq (lf (.getfield i) [9, 4]) t) (l, .ref a :: s, toH M) = ev d t (l, .int (fi M a 4) :: s, toH M) := by rw [ev_sq, y_gf_9_4 hc] <;> rfl
theorem y_goto {d : Nat} {l s : AL} {h : AH} {n : Int} {k : Nat} : ev d (lf (.goto n) [k]) (l, s, h) = some (.inl (k + 1), l, s, h) := by rw [ev_lf]; rfl
theorem x_goto {d : Nat} {l s : AL} {h : AH} {n : Int} {k : Nat} {t : AT} : ev d (sq (lf (.goto n) [k]) t) (l, s, h) = some (.inl (k + 1), l, s, h) := by rw [ev_sq, y_goto] <;> rfl
theorem y_i2b {d : Nat} {x : Int32} {l s : AL} {h : AH} : ev d (lf (.i2b) []) (l, .int x :: s, h) = some (.inl 0, l, .int x.toInt8.toInt32 :: s, h) := by rw [ev_lf]; rfl
theorem x_i2b {d : Nat} {x : Int32} {l s : AL} {h : AH} {t : AT} : ev d (sq (lf (.i2b) []) t) (l, .int x :: s, h) = ev d t (l, .int x.toInt8.toInt32 :: s, h) := by rw [ev_sq, y_i2b] <;> rfl
theorem y_i2l {d : Nat} {x : Int32} {l s : AL} {h : AH} : ev d (lf (.i2l) []) (l, .int x :: s, h) = some (.inl 0, l, .long x.toInt64 :: s, h) := by rw [ev_lf]; rfl
theorem x_i2l {d : Nat} {x : Int32} {l s : AL} {h : AH} {t : AT} : ev d (sq (lf (.i2l) []) t) (l, .int x :: s, h) = ev d t (l, .long x.toInt64 :: s, h) := by rw [ev_sq, y_i2l] <;> rfl
theorem y_iadd {d : Nat} {x y : Int32} {l s : AL} {h : AH} : ev d (lf (.iadd) []) (l, .int y :: .int x :: s, h) = some (.inl 0, l, .int (x + y) :: s, h) := by rw [ev_lf]; rfl
theorem x_iadd {d : Nat} {x y : Int32} {l s : AL} {h : AH} {t : AT} : ev d (sq (lf (.iadd) []) t) (l, .int y :: .int x :: s, h) = ev d t (l, .int (x + y) :: s, h) := by rw [ev_sq, y_iadd] <;> rfl
theorem y_iaload {d : Nat} {M : MM} {a j : Nat} {l s : AL} (hc : cl M a = 20) (hj : j < ln M a) (hb : j < 2 ^ 31) : ev d (lf (.iaload) []) (l, .int (nI j) :: .ref a :: s, toH M) = some (.inl 0, l, .int (ai M a j) :: s, toH M) := ld_I hc hj hb
theorem x_iaload {d : Nat} {M : MM} {a j : Nat} {l s : AL} {t : AT} (hc : cl M a = 20) (hj : j < ln M a) (hb : j < 2 ^ 31) : ev d (sq (lf (.iaload) []) t) (l, .int (nI j) :: .ref a :: s, toH M) = ev d t (l, .int (ai M a j) :: s, toH M) := by rw [ev_sq, y_iaload hc hj hb] <;> rfl
theorem y_iaload_s {d : Nat} {M : MM} {j : Nat} {l s : AL} (hj : j < sL M) (hb : j < 2 ^ 31) : ev d (lf (.iaload) []) (l, .int (nI j) :: .ref 2000000 :: s, toH M) = some (.inl 0, l, .int (sX M j) :: s, toH M) := ld_S hj hb
theorem x_iaload_s {d : Nat} {M : MM} {j : Nat} {l s : AL} {t : AT} (hj : j < sL M) (hb : j < 2 ^ 31) : ev d (sq (lf (.iaload) []) t) (l, .int (nI j) :: .ref 2000000 :: s, toH M) = ev d t (l, .int (sX M j) :: s, toH M) := by rw [ev_sq, y_iaload_s hj hb] <;> rfl
theorem y_iand {d : Nat} {x y : Int32} {l s : AL} {h : AH} : ev d (lf (.iand) []) (l, .int y :: .int x :: s, h) = some (.inl 0, l, .int (x &&& y) :: s, h) := by rw [ev_lf]; rfl
theorem x_iand {d : Nat} {x y : Int32} {l s : AL} {h : AH} {t : AT} : ev d (sq (lf (.iand) []) t) (l, .int y :: .int x :: s, h) = ev d t (l, .int (x &&& y) :: s, h) := by rw [ev_sq, y_iand] <;> rfl
theorem y_iastore {d : Nat} {M : MM} {a j : Nat} {x : Int32} {l s : AL} (hc : cl M a = 20) (hj : j < ln M a) (hb : j < 2 ^ 31) : ev d (lf (.iastore) []) (l, .int x :: .int (nI j) :: .ref a :: s, toH M) = some (.inl 0, l, s, toH (setA M a (upd (ai M a) j x))) := st_I hc hj hb
theorem x_iastore {d : Nat} {M : MM} {a j : Nat} {x : Int32} {l s : AL} {t : AT} (hc : cl M a = 20) (hj : j < ln M a) (hb : j < 2 ^ 31) : ev d (sq (lf (.iastore) []) t) (l, .int x :: .int (nI j) :: .ref a :: s, toH M) = ev d t (l, s, toH (setA M a (upd (ai M a) j x))) := by rw [ev_sq, y_iastore hc hj hb] <;> rfl
theorem y_iconst_m1 {d : Nat} {l s : AL} {h : AH} : ev d (lf (.iconst (-1)) []) (l, s, h) = some (.inl 0, l, .int ((-1)) :: s, h) := by
  rw [ev_lf]
  show some ((.inl 0 : AO), l, Value.int (Int32.ofInt (-1)) :: s, h) = _
  rw [show Int32.ofInt (-1) = (-1) by decide +kernel]
theorem x_iconst_m1 {d : Nat} {l s : AL} {h : AH} {t : AT} : ev d (sq (lf (.iconst (-1)) []) t) (l, s, h) = ev d t (l, .int ((-1)) :: s, h) := by rw [ev_sq, y_iconst_m1] <;> rfl
theorem y_iconst_0 {d : Nat} {l s : AL} {h : AH} : ev d (lf (.iconst 0) []) (l, s, h) = some (.inl 0, l, .int (nI 0) :: s, h) := by
  rw [ev_lf]
  show some ((.inl 0 : AO), l, Value.int (Int32.ofInt (0)) :: s, h) = _
  rw [show Int32.ofInt (0) = nI 0 by decide +kernel]
theorem x_iconst_0 {d : Nat} {l s : AL} {h : AH} {t : AT} : ev d (sq (lf (.iconst 0) []) t) (l, s, h) = ev d t (l, .int (nI 0) :: s, h) := by rw [ev_sq, y_iconst_0] <;> rfl
theorem y_iconst_1 {d : Nat} {l s : AL} {h : AH} : ev d (lf (.iconst 1) []) (l, s, h) = some (.inl 0, l, .int (nI 1) :: s, h) := by
  rw [ev_lf]
  show some ((.inl 0 : AO), l, Value.int (Int32.ofInt (1)) :: s, h) = _
  rw [show Int32.ofInt (1) = nI 1 by decide +kernel]
theorem x_iconst_1 {d : Nat} {l s : AL} {h : AH} {t : AT} : ev d (sq (lf (.iconst 1) []) t) (l, s, h) = ev d t (l, .int (nI 1) :: s, h) := by rw [ev_sq, y_iconst_1] <;> rfl
theorem y_iconst_2 {d : Nat} {l s : AL} {h : AH} : ev d (lf (.iconst 2) []) (l, s, h) = some (.inl 0, l, .int (nI 2) :: s, h) := by
  rw [ev_lf]
  show some ((.inl 0 : AO), l, Value.int (Int32.ofInt (2)) :: s, h) = _
  rw [show Int32.ofInt (2) = nI 2 by decide +kernel]
theorem x_iconst_2 {d : Nat} {l s : AL} {h : AH} {t : AT} : ev d (sq (lf (.iconst 2) []) t) (l, s, h) = ev d t (l, .int (nI 2) :: s, h) := by rw [ev_sq, y_iconst_2] <;> rfl
theorem y_iconst_3 {d : Nat} {l s : AL} {h : AH} : ev d (lf (.iconst 3) []) (l, s, h) = some (.inl 0, l, .int (nI 3) :: s, h) := by
  rw [ev_lf]
  show some ((.inl 0 : AO), l, Value.int (Int32.ofInt (3)) :: s, h) = _
  rw [show Int32.ofInt (3) = nI 3 by decide +kernel]
theorem x_iconst_3 {d : Nat} {l s : AL} {h : AH} {t : AT} : ev d (sq (lf (.iconst 3) []) t) (l, s, h) = ev d t (l, .int (nI 3) :: s, h) := by rw [ev_sq, y_iconst_3] <;> rfl
theorem y_iconst_4 {d : Nat} {l s : AL} {h : AH} : ev d (lf (.iconst 4) []) (l, s, h) = some (.inl 0, l, .int (nI 4) :: s, h) := by
  rw [ev_lf]
  show some ((.inl 0 : AO), l, Value.int (Int32.ofInt (4)) :: s, h) = _
  rw [show Int32.ofInt (4) = nI 4 by decide +kernel]
theorem x_iconst_4 {d : Nat} {l s : AL} {h : AH} {t : AT} : ev d (sq (lf (.iconst 4) []) t) (l, s, h) = ev d t (l, .int (nI 4) :: s, h) := by rw [ev_sq, y_iconst_4] <;> rfl
theorem y_iconst_5 {d : Nat} {l s : AL} {h : AH} : ev d (lf (.iconst 5) []) (l, s, h) = some (.inl 0, l, .int (nI 5) :: s, h) := by
  rw [ev_lf]
  show some ((.inl 0 : AO), l, Value.int (Int32.ofInt (5)) :: s, h) = _
  rw [show Int32.ofInt (5) = nI 5 by decide +kernel]
theorem x_iconst_5 {d : Nat} {l s : AL} {h : AH} {t : AT} : ev d (sq (lf (.iconst 5) []) t) (l, s, h) = ev d t (l, .int (nI 5) :: s, h) := by rw [ev_sq, y_iconst_5] <;> rfl
theorem y_idiv {d : Nat} {x y : Int32} {l s : AL} {h : AH} (h0 : ¬ y = 0) : ev d (lf (.idiv) []) (l, .int y :: .int x :: s, h) = some (.inl 0, l, .int (x / y) :: s, h) := ev_lf.trans (leaf_s (q := (l, .int (x / y) :: s)) (if_neg (t := none) h0))
theorem x_idiv {d : Nat} {x y : Int32} {l s : AL} {h : AH} {t : AT} (h0 : ¬ y = 0) : ev d (sq (lf (.idiv) []) t) (l, .int y :: .int x :: s, h) = ev d t (l, .int (x / y) :: s, h) := by rw [ev_sq, y_idiv h0] <;> rfl
theorem y_ifCond_eq {d : Nat} {x : Int32} {l s : AL} {h : AH} {n : Int} {k : Nat} : ev d (lf (.ifCond .eq n) [k]) (l, .int x :: s, h) = if x = 0 then some (.inl (k + 1), l, s, h) else some (.inl 0, l, s, h) := by
  rw [ev_lf]
  show brO (cnd .eq x 0) k (l, s, h) = _
  unfold brO cnd
  by_cases hc : x = 0
  · simp [hc, fa_le_nlt]
  · simp [hc, fa_le_nlt]
theorem x_ifCond_eq {d : Nat} {x : Int32} {l s : AL} {h : AH} {n : Int} {k : Nat} {t : AT} : ev d (sq (lf (.ifCond .eq n) [k]) t) (l, .int x :: s, h) = if x = 0 then some (.inl (k + 1), l, s, h) else ev d t (l, s, h) := by rw [ev_sq, y_ifCond_eq, sq_if] <;> rfl
theorem y_ifCond_ge {d : Nat} {x : Int32} {l s : AL} {h : AH} {n : Int} {k : Nat} : ev d (lf (.ifCond .ge n) [k]) (l, .int x :: s, h) = if x < 0 then some (.inl 0, l, s, h) else some (.inl (k + 1), l, s, h) := by
  rw [ev_lf]
  show brO (cnd .ge x 0) k (l, s, h) = _
  unfold brO cnd
  by_cases hc : x < 0
  · simp [hc, fa_le_nlt]
  · simp [hc, fa_le_nlt]
theorem x_ifCond_ge {d : Nat} {x : Int32} {l s : AL} {h : AH} {n : Int} {k : Nat} {t : AT} : ev d (sq (lf (.ifCond .ge n) [k]) t) (l, .int x :: s, h) = if x < 0 then ev d t (l, s, h) else some (.inl (k + 1), l, s, h) := by rw [ev_sq, y_ifCond_ge, sq_if] <;> rfl
theorem y_ifCond_gt {d : Nat} {x : Int32} {l s : AL} {h : AH} {n : Int} {k : Nat} : ev d (lf (.ifCond .gt n) [k]) (l, .int x :: s, h) = if 0 < x then some (.inl (k + 1), l, s, h) else some (.inl 0, l, s, h) := by
  rw [ev_lf]
  show brO (cnd .gt x 0) k (l, s, h) = _
  unfold brO cnd
  by_cases hc : 0 < x
  · simp [hc, fa_le_nlt]
  · simp [hc, fa_le_nlt]
theorem x_ifCond_gt {d : Nat} {x : Int32} {l s : AL} {h : AH} {n : Int} {k : Nat} {t : AT} : ev d (sq (lf (.ifCond .gt n) [k]) t) (l, .int x :: s, h) = if 0 < x then some (.inl (k + 1), l, s, h) else ev d t (l, s, h) := by rw [ev_sq, y_ifCond_gt, sq_if] <;> rfl
theorem y_ifCond_le {d : Nat} {x : Int32} {l s : AL} {h : AH} {n : Int} {k : Nat} : ev d (lf (.ifCond .le n) [k]) (l, .int x :: s, h) = if 0 < x then some (.inl 0, l, s, h) else some (.inl (k + 1), l, s, h) := by
  rw [ev_lf]
  show brO (cnd .le x 0) k (l, s, h) = _
  unfold brO cnd
  by_cases hc : 0 < x
  · simp [hc, fa_le_nlt]
  · simp [hc, fa_le_nlt]
theorem x_ifCond_le {d : Nat} {x : Int32} {l s : AL} {h : AH} {n : Int} {k : Nat} {t : AT} : ev d (sq (lf (.ifCond .le n) [k]) t) (l, .int x :: s, h) = if 0 < x then ev d t (l, s, h) else some (.inl (k + 1), l, s, h) := by rw [ev_sq, y_ifCond_le, sq_if] <;> rfl
theorem y_ifCond_lt {d : Nat} {x : Int32} {l s : AL} {h : AH} {n : Int} {k : Nat} : ev d (lf (.ifCond .lt n) [k]) (l, .int x :: s, h) = if x < 0 then some (.inl (k + 1), l, s, h) else some (.inl 0, l, s, h) := by
  rw [ev_lf]
  show brO (cnd .lt x 0) k (l, s, h) = _
  unfold brO cnd
  by_cases hc : x < 0
  · simp [hc, fa_le_nlt]
  · simp [hc, fa_le_nlt]
theorem x_ifCond_lt {d : Nat} {x : Int32} {l s : AL} {h : AH} {n : Int} {k : Nat} {t : AT} : ev d (sq (lf (.ifCond .lt n) [k]) t) (l, .int x :: s, h) = if x < 0 then some (.inl (k + 1), l, s, h) else ev d t (l, s, h) := by rw [ev_sq, y_ifCond_lt, sq_if] <;> rfl
theorem y_ifCond_ne {d : Nat} {x : Int32} {l s : AL} {h : AH} {n : Int} {k : Nat} : ev d (lf (.ifCond .ne n) [k]) (l, .int x :: s, h) = if x = 0 then some (.inl 0, l, s, h) else some (.inl (k + 1), l, s, h) := by
  rw [ev_lf]
  show brO (cnd .ne x 0) k (l, s, h) = _
  unfold brO cnd
  by_cases hc : x = 0
  · simp [hc, fa_le_nlt]
  · simp [hc, fa_le_nlt]
theorem x_ifCond_ne {d : Nat} {x : Int32} {l s : AL} {h : AH} {n : Int} {k : Nat} {t : AT} : ev d (sq (lf (.ifCond .ne n) [k]) t) (l, .int x :: s, h) = if x = 0 then ev d t (l, s, h) else some (.inl (k + 1), l, s, h) := by rw [ev_sq, y_ifCond_ne, sq_if] <;> rfl
theorem y_if_icmp_eq {d : Nat} {x y : Int32} {l s : AL} {h : AH} {n : Int} {k : Nat} : ev d (lf (.if_icmp .eq n) [k]) (l, .int y :: .int x :: s, h) = if x = y then some (.inl (k + 1), l, s, h) else some (.inl 0, l, s, h) := by
  rw [ev_lf]
  show brO (cnd .eq x y) k (l, s, h) = _
  unfold brO cnd
  by_cases hc : x = y
  · simp [hc, fa_le_nlt]
  · simp [hc, fa_le_nlt]
theorem x_if_icmp_eq {d : Nat} {x y : Int32} {l s : AL} {h : AH} {n : Int} {k : Nat} {t : AT} : ev d (sq (lf (.if_icmp .eq n) [k]) t) (l, .int y :: .int x :: s, h) = if x = y then some (.inl (k + 1), l, s, h) else ev d t (l, s, h) := by rw [ev_sq, y_if_icmp_eq, sq_if] <;> rfl
theorem y_if_icmp_ge {d : Nat} {x y : Int32} {l s : AL} {h : AH} {n : Int} {k : Nat} : ev d (lf (.if_icmp .ge n) [k]) (l, .int y :: .int x :: s, h) = if x < y then some (.inl 0, l, s, h) else some (.inl (k + 1), l, s, h) := by
  rw [ev_lf]
  show brO (cnd .ge x y) k (l, s, h) = _
  unfold brO cnd
  by_cases hc : x < y
  · simp [hc, fa_le_nlt]
  · simp [hc, fa_le_nlt]
theorem x_if_icmp_ge {d : Nat} {x y : Int32} {l s : AL} {h : AH} {n : Int} {k : Nat} {t : AT} : ev d (sq (lf (.if_icmp .ge n) [k]) t) (l, .int y :: .int x :: s, h) = if x < y then ev d t (l, s, h) else some (.inl (k + 1), l, s, h) := by rw [ev_sq, y_if_icmp_ge, sq_if] <;> rfl
theorem y_if_icmp_gt {d : Nat} {x y : Int32} {l s : AL} {h : AH} {n : Int} {k : Nat} : ev d (lf (.if_icmp .gt n) [k]) (l, .int y :: .int x :: s, h) = if y < x then some (.inl (k + 1), l, s, h) else some (.inl 0, l, s, h) := by
  rw [ev_lf]
  show brO (cnd .gt x y) k (l, s, h) = _
  unfold brO cnd
  by_cases hc : y < x
  · simp [hc, fa_le_nlt]
  · simp [hc, fa_le_nlt]
theorem x_if_icmp_gt {d : Nat} {x y : Int32} {l s : AL} {h : AH} {n : Int} {k : Nat} {t : AT} : ev d (sq (lf (.if_icmp .gt n) [k]) t) (l, .int y :: .int x :: s, h) = if y < x then some (.inl (k + 1), l, s, h) else ev d t (l, s, h) := by rw [ev_sq, y_if_icmp_gt, sq_if] <;> rfl
theorem y_if_icmp_le {d : Nat} {x y : Int32} {l s : AL} {h : AH} {n : Int} {k : Nat} : ev d (lf (.if_icmp .le n) [k]) (l, .int y :: .int x :: s, h) = if y < x then some (.inl 0, l, s, h) else some (.inl (k + 1), l, s, h) := by
  rw [ev_lf]
  show brO (cnd .le x y) k (l, s, h) = _
  unfold brO cnd
  by_cases hc : y < x
  · simp [hc, fa_le_nlt]
  · simp [hc, fa_le_nlt]
theorem x_if_icmp_le {d : Nat} {x y : Int32} {l s : AL} {h : AH} {n : Int} {k : Nat} {t : AT} : ev d (sq (lf (.if_icmp .le n) [k]) t) (l, .int y :: .int x :: s, h) = if y < x then ev d t (l, s, h) else some (.inl (k + 1), l, s, h) := by rw [ev_sq, y_if_icmp_le, sq_if] <;> rfl
theorem y_if_icmp_lt {d : Nat} {x y : Int32} {l s : AL} {h : AH} {n : Int} {k : Nat} : ev d (lf (.if_icmp .lt n) [k]) (l, .int y :: .int x :: s, h) = if x < y then some (.inl (k + 1), l, s, h) else some (.inl 0, l, s, h) := by
  rw [ev_lf]
  show brO (cnd .lt x y) k (l, s, h) = _
  unfold brO cnd
  by_cases hc : x < y
  · simp [hc, fa_le_nlt]
  · simp [hc, fa_le_nlt]
theorem x_if_icmp_lt {d : Nat} {x y : Int32} {l s : AL} {h : AH} {n : Int} {k : Nat} {t : AT} : ev d (sq (lf (.if_icmp .lt n) [k]) t) (l, .int y :: .int x :: s, h) = if x < y then some (.inl (k + 1), l, s, h) else ev d t (l, s, h) := by rw [ev_sq, y_if_icmp_lt, sq_if] <;> rfl
theorem y_if_icmp_ne {d : Nat} {x y : Int32} {l s : AL} {h : AH} {n : Int} {k : Nat} : ev d (lf (.if_icmp .ne n) [k]) (l, .int y :: .int x :: s, h) = if x = y then some (.inl 0, l, s, h) else some (.inl (k + 1), l, s, h) := by
  rw [ev_lf]
  show brO (cnd .ne x y) k (l, s, h) = _
  unfold brO cnd
  by_cases hc : x = y
  · simp [hc, fa_le_nlt]
  · simp [hc, fa_le_nlt]
theorem x_if_icmp_ne {d : Nat} {x y : Int32} {l s : AL} {h : AH} {n : Int} {k : Nat} {t : AT} : ev d (sq (lf (.if_icmp .ne n) [k]) t) (l, .int y :: .int x :: s, h) = if x = y then ev d t (l, s, h) else some (.inl (k + 1), l, s, h) := by rw [ev_sq, y_if_icmp_ne, sq_if] <;> rfl
theorem y_ifnonnull_n {d : Nat} {l s : AL} {h : AH} {n : Int} {k : Nat} : ev d (lf (.ifnonnull n) [k]) (l, .null :: s, h) = some (.inl 0, l, s, h) := by rw [ev_lf]; rfl
theorem x_ifnonnull_n {d : Nat} {l s : AL} {h : AH} {n : Int} {k : Nat} {t : AT} : ev d (sq (lf (.ifnonnull n) [k]) t) (l, .null :: s, h) = ev d t (l, s, h) := by rw [ev_sq, y_ifnonnull_n] <;> rfl
theorem y_ifnonnull_r {d : Nat} {a : Nat} {l s : AL} {h : AH} {n : Int} {k : Nat} : ev d (lf (.ifnonnull n) [k]) (l, .ref a :: s, h) = some (.inl (k + 1), l, s, h) := by rw [ev_lf]; rfl
theorem x_ifnonnull_r {d : Nat} {a : Nat} {l s : AL} {h : AH} {n : Int} {k : Nat} {t : AT} : ev d (sq (lf (.ifnonnull n) [k]) t) (l, .ref a :: s, h) = some (.inl (k + 1), l, s, h) := by rw [ev_sq, y_ifnonnull_r] <;> rfl
theorem y_ifnull_n {d : Nat} {l s : AL} {h : AH} {n : Int} {k : Nat} : ev d (lf (.ifnull n) [k]) (l, .null :: s, h) = some (.inl (k + 1), l, s, h) := by rw [ev_lf]; rfl
theorem x_ifnull_n {d : Nat} {l s : AL} {h : AH} {n : Int} {k : Nat} {t : AT} : ev d (sq (lf (.ifnull n) [k]) t) (l, .null :: s, h) = some (.inl (k + 1), l, s, h) := by rw [ev_sq, y_ifnull_n] <;> rfl
theorem y_ifnull_r {d : Nat} {a : Nat} {l s : AL} {h : AH} {n : Int} {k : Nat} : ev d (lf (.ifnull n) [k]) (l, .ref a :: s, h) = some (.inl 0, l, s, h) := by rw [ev_lf]; rfl
theorem x_ifnull_r {d : Nat} {a : Nat} {l s : AL} {h : AH} {n : Int} {k : Nat} {t : AT} : ev d (sq (lf (.ifnull n) [k]) t) (l, .ref a :: s, h) = ev d t (l, s, h) := by rw [ev_sq, y_ifnull_r] <;> rfl
theorem y_iinc1_m1 {d : Nat} {v0 : Value} {x : Int32} {l s : AL} {h : AH} : ev d (lf (.iinc 1 (-1)) []) (v0 :: .int x :: l, s, h) = some (.inl 0, lset1 (v0 :: .int x :: l) 1 (.int (x + (-1))), s, h) := by rw [ev_lf]; rfl
theorem x_iinc1_m1 {d : Nat} {v0 : Value} {x : Int32} {l s : AL} {h : AH} {t : AT} : ev d (sq (lf (.iinc 1 (-1)) []) t) (v0 :: .int x :: l, s, h) = ev d t (lset1 (v0 :: .int x :: l) 1 (.int (x + (-1))), s, h) := by rw [ev_sq, y_iinc1_m1] <;> rfl
theorem y_iinc1_1 {d : Nat} {v0 : Value} {x : Int32} {l s : AL} {h : AH} : ev d (lf (.iinc 1 1) []) (v0 :: .int x :: l, s, h) = some (.inl 0, lset1 (v0 :: .int x :: l) 1 (.int (x + nI 1)), s, h) := by rw [ev_lf]; rfl
theorem x_iinc1_1 {d : Nat} {v0 : Value} {x : Int32} {l s : AL} {h : AH} {t : AT} : ev d (sq (lf (.iinc 1 1) []) t) (v0 :: .int x :: l, s, h) = ev d t (lset1 (v0 :: .int x :: l) 1 (.int (x + nI 1)), s, h) := by rw [ev_sq, y_iinc1_1] <;> rfl
theorem y_iinc11_1 {d : Nat} {v0 v1 v2 v3 v4 v5 v6 v7 v8 v9 v10 : Value} {x : Int32} {l s : AL} {h : AH} : ev d (lf (.iinc 11 1) []) (v0 :: v1 :: v2 :: v3 :: v4 :: v5 :: v6 :: v7 :: v8 :: v9 :: v10 :: .int x :: l, s, h) = some (.inl 0, lset1 (v0 :: v1 :: v2 :: v3 :: v4 :: v5 :: v6 :: v7 :: v8 :: v9 :: v10 :: .int x :: l) 11 (.int (x + nI 1)), s, h) := by rw [ev_lf]; rfl
theorem x_iinc11_1 {d : Nat} {v0 v1 v2 v3 v4 v5 v6 v7 v8 v9 v10 : Value} {x : Int32} {l s : AL} {h : AH} {t : AT} : ev d (sq (lf (.iinc 11 1) []) t) (v0 :: v1 :: v2 :: v3 :: v4 :: v5 :: v6 :: v7 :: v8 :: v9 :: v10 :: .int x :: l, s, h) = ev d t (lset1 (v0 :: v1 :: v2 :: v3 :: v4 :: v5 :: v6 :: v7 :: v8 :: v9 :: v10 :: .int x :: l) 11 (.int (x + nI 1)), s, h) := by rw [ev_sq, y_iinc11_1] <;> rfl
theorem y_iinc2_m1 {d : Nat} {v0 v1 : Value} {x : Int32} {l s : AL} {h : AH} : ev d (lf (.iinc 2 (-1)) []) (v0 :: v1 :: .int x :: l, s, h) = some (.inl 0, lset1 (v0 :: v1 :: .int x :: l) 2 (.int (x + (-1))), s, h) := by rw [ev_lf]; rfl
theorem x_iinc2_m1 {d : Nat} {v0 v1 : Value} {x : Int32} {l s : AL} {h : AH} {t : AT} : ev d (sq (lf (.iinc 2 (-1)) []) t) (v0 :: v1 :: .int x :: l, s, h) = ev d t (lset1 (v0 :: v1 :: .int x :: l) 2 (.int (x + (-1))), s, h) := by rw [ev_sq, y_iinc2_m1] <;> rfl
theorem y_iinc2_m8 {d : Nat} {v0 v1 : Value} {x : Int32} {l s : AL} {h : AH} : ev d (lf (.iinc 2 (-8)) []) (v0 :: v1 :: .int x :: l, s, h) = some (.inl 0, lset1 (v0 :: v1 :: .int x :: l) 2 (.int (x + (-8))), s, h) := by rw [ev_lf]; rfl
theorem x_iinc2_m8 {d : Nat} {v0 v1 : Value} {x : Int32} {l s : AL} {h : AH} {t : AT} : ev d (sq (lf (.iinc 2 (-8)) []) t) (v0 :: v1 :: .int x :: l, s, h) = ev d t (lset1 (v0 :: v1 :: .int x :: l) 2 (.int (x + (-8))), s, h) := by rw [ev_sq, y_iinc2_m8] <;> rfl
theorem y_iinc2_1 {d : Nat} {v0 v1 : Value} {x : Int32} {l s : AL} {h : AH} : ev d (lf (.iinc 2 1) []) (v0 :: v1 :: .int x :: l, s, h) = some (.inl 0, lset1 (v0 :: v1 :: .int x :: l) 2 (.int (x + nI 1)), s, h) := by rw [ev_lf]; rfl
theorem x_iinc2_1 {d : Nat} {v0 v1 : Value} {x : Int32} {l s : AL} {h : AH} {t : AT} : ev d (sq (lf (.iinc 2 1) []) t) (v0 :: v1 :: .int x :: l, s, h) = ev d t (lset1 (v0 :: v1 :: .int x :: l) 2 (.int (x + nI 1)), s, h) := by rw [ev_sq, y_iinc2_1] <;> rfl
theorem y_iinc3_m1 {d : Nat} {v0 v1 v2 : Value} {x : Int32} {l s : AL} {h : AH} : ev d (lf (.iinc 3 (-1)) []) (v0 :: v1 :: v2 :: .int x :: l, s, h) = some (.inl 0, lset1 (v0 :: v1 :: v2 :: .int x :: l) 3 (.int (x + (-1))), s, h) := by rw [ev_lf]; rfl
theorem x_iinc3_m1 {d : Nat} {v0 v1 v2 : Value} {x : Int32} {l s : AL} {h : AH} {t : AT} : ev d (sq (lf (.iinc 3 (-1)) []) t) (v0 :: v1 :: v2 :: .int x :: l, s, h) = ev d t (lset1 (v0 :: v1 :: v2 :: .int x :: l) 3 (.int (x + (-1))), s, h) := by rw [ev_sq, y_iinc3_m1] <;> rfl
theorem y_iinc3_1 {d : Nat} {v0 v1 v2 : Value} {x : Int32} {l s : AL} {h : AH} : ev d (lf (.iinc 3 1) []) (v0 :: v1 :: v2 :: .int x :: l, s, h) = some (.inl 0, lset1 (v0 :: v1 :: v2 :: .int x :: l) 3 (.int (x + nI 1)), s, h) := by rw [ev_lf]; rfl
theorem x_iinc3_1 {d : Nat} {v0 v1 v2 : Value} {x : Int32} {l s : AL} {h : AH} {t : AT} : ev d (sq (lf (.iinc 3 1) []) t) (v0 :: v1 :: v2 :: .int x :: l, s, h) = ev d t (lset1 (v0 :: v1 :: v2 :: .int x :: l) 3 (.int (x + nI 1)), s, h) := by rw [ev_sq, y_iinc3_1] <;> rfl
theorem y_iinc4_1 {d : Nat} {v0 v1 v2 v3 : Value} {x : Int32} {l s : AL} {h : AH} : ev d (lf (.iinc 4 1) []) (v0 :: v1 :: v2 :: v3 :: .int x :: l, s, h) = some (.inl 0, lset1 (v0 :: v1 :: v2 :: v3 :: .int x :: l) 4 (.int (x + nI 1)), s, h) := by rw [ev_lf]; rfl
theorem x_iinc4_1 {d : Nat} {v0 v1 v2 v3 : Value} {x : Int32} {l s : AL} {h : AH} {t : AT} : ev d (sq (lf (.iinc 4 1) []) t) (v0 :: v1 :: v2 :: v3 :: .int x :: l, s, h) = ev d t (lset1 (v0 :: v1 :: v2 :: v3 :: .int x :: l) 4 (.int (x + nI 1)), s, h) := by rw [ev_sq, y_iinc4_1] <;> rfl
theorem y_iinc4_9 {d : Nat} {v0 v1 v2 v3 : Value} {x : Int32} {l s : AL} {h : AH} : ev d (lf (.iinc 4 9) []) (v0 :: v1 :: v2 :: v3 :: .int x :: l, s, h) = some (.inl 0, lset1 (v0 :: v1 :: v2 :: v3 :: .int x :: l) 4 (.int (x + nI 9)), s, h) := by rw [ev_lf]; rfl
theorem x_iinc4_9 {d : Nat} {v0 v1 v2 v3 : Value} {x : Int32} {l s : AL} {h : AH} {t : AT} : ev d (sq (lf (.iinc 4 9) []) t) (v0 :: v1 :: v2 :: v3 :: .int x :: l, s, h) = ev d t (lset1 (v0 :: v1 :: v2 :: v3 :: .int x :: l) 4 (.int (x + nI 9)), s, h) := by rw [ev_sq, y_iinc4_9] <;> rfl
theorem y_iinc5_m1 {d : Nat} {v0 v1 v2 v3 v4 : Value} {x : Int32} {l s : AL} {h : AH} : ev d (lf (.iinc 5 (-1)) []) (v0 :: v1 :: v2 :: v3 :: v4 :: .int x :: l, s, h) = some (.inl 0, lset1 (v0 :: v1 :: v2 :: v3 :: v4 :: .int x :: l) 5 (.int (x + (-1))), s, h) := by rw [ev_lf]; rfl
theorem x_iinc5_m1 {d : Nat} {v0 v1 v2 v3 v4 : Value} {x : Int32} {l s : AL} {h : AH} {t : AT} : ev d (sq (lf (.iinc 5 (-1)) []) t) (v0 :: v1 :: v2 :: v3 :: v4 :: .int x :: l, s, h) = ev d t (lset1 (v0 :: v1 :: v2 :: v3 :: v4 :: .int x :: l) 5 (.int (x + (-1))), s, h) := by rw [ev_sq, y_iinc5_m1] <;> rfl
theorem y_iinc5_1 {d : Nat} {v0 v1 v2 v3 v4 : Value} {x : Int32} {l s : AL} {h : AH} : ev d (lf (.iinc 5 1) []) (v0 :: v1 :: v2 :: v3 :: v4 :: .int x :: l, s, h) = some (.inl 0, lset1 (v0 :: v1 :: v2 :: v3 :: v4 :: .int x :: l) 5 (.int (x + nI 1)), s, h) := by rw [ev_lf]; rfl
theorem x_iinc5_1 {d : Nat} {v0 v1 v2 v3 v4 : Value} {x : Int32} {l s : AL} {h : AH} {t : AT} : ev d (sq (lf (.iinc 5 1) []) t) (v0 :: v1 :: v2 :: v3 :: v4 :: .int x :: l, s, h) = ev d t (lset1 (v0 :: v1 :: v2 :: v3 :: v4 :: .int x :: l) 5 (.int (x + nI 1)), s, h) := by rw [ev_sq, y_iinc5_1] <;> rfl
theorem y_iinc6_m1 {d : Nat} {v0 v1 v2 v3 v4 v5 : Value} {x : Int32} {l s : AL} {h : AH} : ev d (lf (.iinc 6 (-1)) []) (v0 :: v1 :: v2 :: v3 :: v4 :: v5 :: .int x :: l, s, h) = some (.inl 0, lset1 (v0 :: v1 :: v2 :: v3 :: v4 :: v5 :: .int x :: l) 6 (.int (x + (-1))), s, h) := by rw [ev_lf]; rfl
theorem x_iinc6_m1 {d : Nat} {v0 v1 v2 v3 v4 v5 : Value} {x : Int32} {l s : AL} {h : AH} {t : AT} : ev d (sq (lf (.iinc 6 (-1)) []) t) (v0 :: v1 :: v2 :: v3 :: v4 :: v5 :: .int x :: l, s, h) = ev d t (lset1 (v0 :: v1 :: v2 :: v3 :: v4 :: v5 :: .int x :: l) 6 (.int (x + (-1))), s, h) := by rw [ev_sq, y_iinc6_m1] <;> rfl
theorem y_iinc6_1 {d : Nat} {v0 v1 v2 v3 v4 v5 : Value} {x : Int32} {l s : AL} {h : AH} : ev d (lf (.iinc 6 1) []) (v0 :: v1 :: v2 :: v3 :: v4 :: v5 :: .int x :: l, s, h) = some (.inl 0, lset1 (v0 :: v1 :: v2 :: v3 :: v4 :: v5 :: .int x :: l) 6 (.int (x + nI 1)), s, h) := by rw [ev_lf]; rfl
theorem x_iinc6_1 {d : Nat} {v0 v1 v2 v3 v4 v5 : Value} {x : Int32} {l s : AL} {h : AH} {t : AT} : ev d (sq (lf (.iinc 6 1) []) t) (v0 :: v1 :: v2 :: v3 :: v4 :: v5 :: .int x :: l, s, h) = ev d t (lset1 (v0 :: v1 :: v2 :: v3 :: v4 :: v5 :: .int x :: l) 6 (.int (x + nI 1)), s, h) := by rw [ev_sq, y_iinc6_1] <;> rfl
theorem y_iinc7_m1 {d : Nat} {v0 v1 v2 v3 v4 v5 v6 : Value} {x : Int32} {l s : AL} {h : AH} : ev d (lf (.iinc 7 (-1)) []) (v0 :: v1 :: v2 :: v3 :: v4 :: v5 :: v6 :: .int x :: l, s, h) = some (.inl 0, lset1 (v0 :: v1 :: v2 :: v3 :: v4 :: v5 :: v6 :: .int x :: l) 7 (.int (x + (-1))), s, h) := by rw [ev_lf]; rfl
theorem x_iinc7_m1 {d : Nat} {v0 v1 v2 v3 v4 v5 v6 : Value} {x : Int32} {l s : AL} {h : AH} {t : AT} : ev d (sq (lf (.iinc 7 (-1)) []) t) (v0 :: v1 :: v2 :: v3 :: v4 :: v5 :: v6 :: .int x :: l, s, h) = ev d t (lset1 (v0 :: v1 :: v2 :: v3 :: v4 :: v5 :: v6 :: .int x :: l) 7 (.int (x + (-1))), s, h) := by rw [ev_sq, y_iinc7_m1] <;> rfl
theorem y_iinc7_1 {d : Nat} {v0 v1 v2 v3 v4 v5 v6 : Value} {x : Int32} {l s : AL} {h : AH} : ev d (lf (.iinc 7 1) []) (v0 :: v1 :: v2 :: v3 :: v4 :: v5 :: v6 :: .int x :: l, s, h) = some (.inl 0, lset1 (v0 :: v1 :: v2 :: v3 :: v4 :: v5 :: v6 :: .int x :: l) 7 (.int (x + nI 1)), s, h) := by rw [ev_lf]; rfl
theorem x_iinc7_1 {d : Nat} {v0 v1 v2 v3 v4 v5 v6 : Value} {x : Int32} {l s : AL} {h : AH} {t : AT} : ev d (sq (lf (.iinc 7 1) []) t) (v0 :: v1 :: v2 :: v3 :: v4 :: v5 :: v6 :: .int x :: l, s, h) = ev d t (lset1 (v0 :: v1 :: v2 :: v3 :: v4 :: v5 :: v6 :: .int x :: l) 7 (.int (x + nI 1)), s, h) := by rw [ev_sq, y_iinc7_1] <;> rfl
theorem y_iinc8_1 {d : Nat} {v0 v1 v2 v3 v4 v5 v6 v7 : Value} {x : Int32} {l s : AL} {h : AH} : ev d (lf (.iinc 8 1) []) (v0 :: v1 :: v2 :: v3 :: v4 :: v5 :: v6 :: v7 :: .int x :: l, s, h) = some (.inl 0, lset1 (v0 :: v1 :: v2 :: v3 :: v4 :: v5 :: v6 :: v7 :: .int x :: l) 8 (.int (x + nI 1)), s, h) := by rw [ev_lf]; rfl
theorem x_iinc8_1 {d : Nat} {v0 v1 v2 v3 v4 v5 v6 v7 : Value} {x : Int32} {l s : AL} {h : AH} {t : AT} : ev d (sq (lf (.iinc 8 1) []) t) (v0 :: v1 :: v2 :: v3 :: v4 :: v5 :: v6 :: v7 :: .int x :: l, s, h) = ev d t (lset1 (v0 :: v1 :: v2 :: v3 :: v4 :: v5 :: v6 :: v7 :: .int x :: l) 8 (.int (x + nI 1)), s, h) := by rw [ev_sq, y_iinc8_1] <;> rfl
theorem y_iinc9_1 {d : Nat} {v0 v1 v2 v3 v4 v5 v6 v7 v8 : Value} {x : Int32} {l s : AL} {h : AH} : ev d (lf (.iinc 9 1) []) (v0 :: v1 :: v2 :: v3 :: v4 :: v5 :: v6 :: v7 :: v8 :: .int x :: l, s, h) = some (.inl 0, lset1 (v0 :: v1 :: v2 :: v3 :: v4 :: v5 :: v6 :: v7 :: v8 :: .int x :: l) 9 (.int (x + nI 1)), s, h) := by rw [ev_lf]; rfl
theorem x_iinc9_1 {d : Nat} {v0 v1 v2 v3 v4 v5 v6 v7 v8 : Value} {x : Int32} {l s : AL} {h : AH} {t : AT} : ev d (sq (lf (.iinc 9 1) []) t) (v0 :: v1 :: v2 :: v3 :: v4 :: v5 :: v6 :: v7 :: v8 :: .int x :: l, s, h) = ev d t (lset1 (v0 :: v1 :: v2 :: v3 :: v4 :: v5 :: v6 :: v7 :: v8 :: .int x :: l) 9 (.int (x + nI 1)), s, h) := by rw [ev_sq, y_iinc9_1] <;> rfl
theorem y_iload10 {d : Nat} {v0 v1 v2 v3 v4 v5 v6 v7 v8 v9 : Value} {x : Int32} {l s : AL} {h : AH} : ev d (lf (.iload 10) []) (v0 :: v1 :: v2 :: v3 :: v4 :: v5 :: v6 :: v7 :: v8 :: v9 :: .int x :: l, s, h) = some (.inl 0, v0 :: v1 :: v2 :: v3 :: v4 :: v5 :: v6 :: v7 :: v8 :: v9 :: .int x :: l, .int x :: s, h) := by rw [ev_lf]; rfl
theorem x_iload10 {d : Nat} {v0 v1 v2 v3 v4 v5 v6 v7 v8 v9 : Value} {x : Int32} {l s : AL} {h : AH} {t : AT} : ev d (sq (lf (.iload 10) []) t) (v0 :: v1 :: v2 :: v3 :: v4 :: v5 :: v6 :: v7 :: v8 :: v9 :: .int x :: l, s, h) = ev d t (v0 :: v1 :: v2 :: v3 :: v4 :: v5 :: v6 :: v7 :: v8 :: v9 :: .int x :: l, .int x :: s, h) := by rw [ev_sq, y_iload10] <;> rfl
theorem y_iload11 {d : Nat} {v0 v1 v2 v3 v4 v5 v6 v7 v8 v9 v10 : Value} {x : Int32} {l s : AL} {h : AH} : ev d (lf (.iload 11) []) (v0 :: v1 :: v2 :: v3 :: v4 :: v5 :: v6 :: v7 :: v8 :: v9 :: v10 :: .int x :: l, s, h) = some (.inl 0, v0 :: v1 :: v2 :: v3 :: v4 :: v5 :: v6 :: v7 :: v8 :: v9 :: v10 :: .int x :: l, .int x :: s, h) := by rw [ev_lf]; rfl
theorem x_iload11 {d : Nat} {v0 v1 v2 v3 v4 v5 v6 v7 v8 v9 v10 : Value} {x : Int32} {l s : AL} {h : AH} {t : AT} : ev d (sq (lf (.iload 11) []) t) (v0 :: v1 :: v2 :: v3 :: v4 :: v5 :: v6 :: v7 :: v8 :: v9 :: v10 :: .int x :: l, s, h) = ev d t (v0 :: v1 :: v2 :: v3 :: v4 :: v5 :: v6 :: v7 :: v8 :: v9 :: v10 :: .int x :: l, .int x :: s, h) := by rw [ev_sq, y_iload11] <;> rfl
theorem y_iload12 {d : Nat} {v0 v1 v2 v3 v4 v5 v6 v7 v8 v9 v10 v11 : Value} {x : Int32} {l s : AL} {h : AH} : ev d (lf (.iload 12) []) (v0 :: v1 :: v2 :: v3 :: v4 :: v5 :: v6 :: v7 :: v8 :: v9 :: v10 :: v11 :: .int x :: l, s, h) = some (.inl 0, v0 :: v1 :: v2 :: v3 :: v4 :: v5 :: v6 :: v7 :: v8 :: v9 :: v10 :: v11 :: .int x :: l, .int x :: s, h) := by rw [ev_lf]; rfl
theorem x_iload12 {d : Nat} {v0 v1 v2 v3 v4 v5 v6 v7 v8 v9 v10 v11 : Value} {x : Int32} {l s : AL} {h : AH} {t : AT} : ev d (sq (lf (.iload 12) []) t) (v0 :: v1 :: v2 :: v3 :: v4 :: v5 :: v6 :: v7 :: v8 :: v9 :: v10 :: v11 :: .int x :: l, s, h) = ev d t (v0 :: v1 :: v2 :: v3 :: v4 :: v5 :: v6 :: v7 :: v8 :: v9 :: v10 :: v11 :: .int x :: l, .int x :: s, h) := by rw [ev_sq, y_iload12] <;> rfl
theorem y_iload4 {d : Nat} {v0 v1 v2 v3 : Value} {x : Int32} {l s : AL} {h : AH} : ev d (lf (.iload 4) []) (v0 :: v1 :: v2 :: v3 :: .int x :: l, s, h) = some (.inl 0, v0 :: v1 :: v2 :: v3 :: .int x :: l, .int x :: s, h) := by rw [ev_lf]; rfl
theorem x_iload4 {d : Nat} {v0 v1 v2 v3 : Value} {x : Int32} {l s : AL} {h : AH} {t : AT} : ev d (sq (lf (.iload 4) []) t) (v0 :: v1 :: v2 :: v3 :: .int x :: l, s, h) = ev d t (v0 :: v1 :: v2 :: v3 :: .int x :: l, .int x :: s, h) := by rw [ev_sq, y_iload4] <;> rfl
theorem y_iload5 {d : Nat} {v0 v1 v2 v3 v4 : Value} {x : Int32} {l s : AL} {h : AH} : ev d (lf (.iload 5) []) (v0 :: v1 :: v2 :: v3 :: v4 :: .int x :: l, s, h) = some (.inl 0, v0 :: v1 :: v2 :: v3 :: v4 :: .int x :: l, .int x :: s, h) := by rw [ev_lf]; rfl
theorem x_iload5 {d : Nat} {v0 v1 v2 v3 v4 : Value} {x : Int32} {l s : AL} {h : AH} {t : AT} : ev d (sq (lf (.iload 5) []) t) (v0 :: v1 :: v2 :: v3 :: v4 :: .int x :: l, s, h) = ev d t (v0 :: v1 :: v2 :: v3 :: v4 :: .int x :: l, .int x :: s, h) := by rw [ev_sq, y_iload5] <;> rfl
theorem y_iload6 {d : Nat} {v0 v1 v2 v3 v4 v5 : Value} {x : Int32} {l s : AL} {h : AH} : ev d (lf (.iload 6) []) (v0 :: v1 :: v2 :: v3 :: v4 :: v5 :: .int x :: l, s, h) = some (.inl 0, v0 :: v1 :: v2 :: v3 :: v4 :: v5 :: .int x :: l, .int x :: s, h) := by rw [ev_lf]; rfl
theorem x_iload6 {d : Nat} {v0 v1 v2 v3 v4 v5 : Value} {x : Int32} {l s : AL} {h : AH} {t : AT} : ev d (sq (lf (.iload 6) []) t) (v0 :: v1 :: v2 :: v3 :: v4 :: v5 :: .int x :: l, s, h) = ev d t (v0 :: v1 :: v2 :: v3 :: v4 :: v5 :: .int x :: l, .int x :: s, h) := by rw [ev_sq, y_iload6] <;> rfl
theorem y_iload7 {d : Nat} {v0 v1 v2 v3 v4 v5 v6 : Value} {x : Int32} {l s : AL} {h : AH} : ev d (lf (.iload 7) []) (v0 :: v1 :: v2 :: v3 :: v4 :: v5 :: v6 :: .int x :: l, s, h) = some (.inl 0, v0 :: v1 :: v2 :: v3 :: v4 :: v5 :: v6 :: .int x :: l, .int x :: s, h) := by rw [ev_lf]; rfl
theorem x_iload7 {d : Nat} {v0 v1 v2 v3 v4 v5 v6 : Value} {x : Int32} {l s : AL} {h : AH} {t : AT} : ev d (sq (lf (.iload 7) []) t) (v0 :: v1 :: v2 :: v3 :: v4 :: v5 :: v6 :: .int x :: l, s, h) = ev d t (v0 :: v1 :: v2 :: v3 :: v4 :: v5 :: v6 :: .int x :: l, .int x :: s, h) := by rw [ev_sq, y_iload7] <;> rfl
theorem y_iload8 {d : Nat} {v0 v1 v2 v3 v4 v5 v6 v7 : Value} {x : Int32} {l s : AL} {h : AH} : ev d (lf (.iload 8) []) (v0 :: v1 :: v2 :: v3 :: v4 :: v5 :: v6 :: v7 :: .int x :: l, s, h) = some (.inl 0, v0 :: v1 :: v2 :: v3 :: v4 :: v5 :: v6 :: v7 :: .int x :: l, .int x :: s, h) := by rw [ev_lf]; rfl
theorem x_iload8 {d : Nat} {v0 v1 v2 v3 v4 v5 v6 v7 : Value} {x : Int32} {l s : AL} {h : AH} {t : AT} : ev d (sq (lf (.iload 8) []) t) (v0 :: v1 :: v2 :: v3 :: v4 :: v5 :: v6 :: v7 :: .int x :: l, s, h) = ev d t (v0 :: v1 :: v2 :: v3 :: v4 :: v5 :: v6 :: v7 :: .int x :: l, .int x :: s, h) := by rw [ev_sq, y_iload8] <;> rfl
theorem y_iload9 {d : Nat} {v0 v1 v2 v3 v4 v5 v6 v7 v8 : Value} {x : Int32} {l s : AL} {h : AH} : ev d (lf (.iload 9) []) (v0 :: v1 :: v2 :: v3 :: v4 :: v5 :: v6 :: v7 :: v8 :: .int x :: l, s, h) = some (.inl 0, v0 :: v1 :: v2 :: v3 :: v4 :: v5 :: v6 :: v7 :: v8 :: .int x :: l, .int x :: s, h) := by rw [ev_lf]; rfl
theorem x_iload9 {d : Nat} {v0 v1 v2 v3 v4 v5 v6 v7 v8 : Value} {x : Int32} {l s : AL} {h : AH} {t : AT} : ev d (sq (lf (.iload 9) []) t) (v0 :: v1 :: v2 :: v3 :: v4 :: v5 :: v6 :: v7 :: v8 :: .int x :: l, s, h) = ev d t (v0 :: v1 :: v2 :: v3 :: v4 :: v5 :: v6 :: v7 :: v8 :: .int x :: l, .int x :: s, h) := by rw [ev_sq, y_iload9] <;> rfl
theorem y_iload_n0 {d : Nat} {x : Int32} {l s : AL} {h : AH} : ev d (lf (.iload_n 0) []) (.int x :: l, s, h) = some (.inl 0, .int x :: l, .int x :: s, h) := by rw [ev_lf]; rfl
theorem x_iload_n0 {d : Nat} {x : Int32} {l s : AL} {h : AH} {t : AT} : ev d (sq (lf (.iload_n 0) []) t) (.int x :: l, s, h) = ev d t (.int x :: l, .int x :: s, h) := by rw [ev_sq, y_iload_n0] <;> rfl
theorem y_iload_n1 {d : Nat} {v0 : Value} {x : Int32} {l s : AL} {h : AH} : ev d (lf (.iload_n 1) []) (v0 :: .int x :: l, s, h) = some (.inl 0, v0 :: .int x :: l, .int x :: s, h) := by rw [ev_lf]; rfl
theorem x_iload_n1 {d : Nat} {v0 : Value} {x : Int32} {l s : AL} {h : AH} {t : AT} : ev d (sq (lf (.iload_n 1) []) t) (v0 :: .int x :: l, s, h) = ev d t (v0 :: .int x :: l, .int x :: s, h) := by rw [ev_sq, y_iload_n1] <;> rfl
theorem y_iload_n2 {d : Nat} {v0 v1 : Value} {x : Int32} {l s : AL} {h : AH} : ev d (lf (.iload_n 2) []) (v0 :: v1 :: .int x :: l, s, h) = some (.inl 0, v0 :: v1 :: .int x :: l, .int x :: s, h) := by rw [ev_lf]; rfl
theorem x_iload_n2 {d : Nat} {v0 v1 : Value} {x : Int32} {l s : AL} {h : AH} {t : AT} : ev d (sq (lf (.iload_n 2) []) t) (v0 :: v1 :: .int x :: l, s, h) = ev d t (v0 :: v1 :: .int x :: l, .int x :: s, h) := by rw [ev_sq, y_iload_n2] <;> rfl
theorem y_iload_n3 {d : Nat} {v0 v1 v2 : Value} {x : Int32} {l s : AL} {h : AH} : ev d (lf (.iload_n 3) []) (v0 :: v1 :: v2 :: .int x :: l, s, h) = some (.inl 0, v0 :: v1 :: v2 :: .int x :: l, .int x :: s, h) := by rw [ev_lf]; rfl
theorem x_iload_n3 {d : Nat} {v0 v1 v2 : Value} {x : Int32} {l s : AL} {h : AH} {t : AT} : ev d (sq (lf (.iload_n 3) []) t) (v0 :: v1 :: v2 :: .int x :: l, s, h) = ev d t (v0 :: v1 :: v2 :: .int x :: l, .int x :: s, h) := by rw [ev_sq, y_iload_n3] <;> rfl
theorem y_imul {d : Nat} {x y : Int32} {l s : AL} {h : AH} : ev d (lf (.imul) []) (l, .int y :: .int x :: s, h) = some (.inl 0, l, .int (x * y) :: s, h) := by rw [ev_lf]; rfl
theorem x_imul {d : Nat} {x y : Int32} {l s : AL} {h : AH} {t : AT} : ev d (sq (lf (.imul) []) t) (l, .int y :: .int x :: s, h) = ev d t (l, .int (x * y) :: s, h) := by rw [ev_sq, y_imul] <;> rfl
theorem y_ineg {d : Nat} {x : Int32} {l s : AL} {h : AH} : ev d (lf (.ineg) []) (l, .int x :: s, h) = some (.inl 0, l, .int (-x) :: s, h) := by rw [ev_lf]; rfl
theorem x_ineg {d : Nat} {x : Int32} {l s : AL} {h : AH} {t : AT} : ev d (sq (lf (.ineg) []) t) (l, .int x :: s, h) = ev d t (l, .int (-x) :: s, h) := by rw [ev_sq, y_ineg] <;> rfl
theorem y_oinit {d : Nat} {a i : Nat} {l s : AL} {h : AH} (hr : s.length ≤ 4) : ev d (lf (.invokespecial i) [903]) (l, .ref a :: s, h) = some (.inl 0, l, s, h) := ev_lf.trans ((leaf_c (by rfl) (by rfl)).trans (ctl_jp (z1 := s) (z2 := h) (if_pos hr)))
theorem x_oinit {d : Nat} {a i : Nat} {l s : AL} {h : AH} {t : AT} (hr : s.length ≤ 4) : ev d (sq (lf (.invokespecial i) [903]) t) (l, .ref a :: s, h) = ev d t (l, s, h) := by rw [ev_sq, y_oinit hr] <;> rfl
theorem y_ip0 {d : Nat} {h : AH} {y b i : Nat} {l s : AL} (hr : s.length ≤ 4) : ev d (lf (.invokespecial i) [y, 0]) (l, .ref b :: s, h) = callR (evC d y [.ref b] h) l s := by
  rw [ev_lf]
  show (if s.length ≤ 4 then _ else _) = _
  rw [if_pos hr]
  rfl
theorem x_ip0 {d : Nat} {h : AH} {y b i : Nat} {l s : AL} {t : AT} (hr : s.length ≤ 4) : ev d (sq (lf (.invokespecial i) [y, 0]) t) (l, .ref b :: s, h) = seqR (ev d t) (callR (evC d y [.ref b] h) l s) := by rw [ev_sq, y_ip0 hr] <;> rfl
theorem y_min {d : Nat} {x y : Int32} {i : Nat} {l s : AL} {h : AH} (hr : s.length ≤ 4) : ev d (lf (.invokestatic i) [905]) (l, .int y :: .int x :: s, h) = some (.inl 0, l, .int (if y < x then y else x) :: s, h) := ev_lf.trans ((leaf_c (by rfl) (by rfl)).trans (ctl_js (z1 := Value.int (if y < x then y else x) :: s) (z2 := h) (if_pos hr)))
theorem x_min {d : Nat} {x y : Int32} {i : Nat} {l s : AL} {h : AH} {t : AT} (hr : s.length ≤ 4) : ev d (sq (lf (.invokestatic i) [905]) t) (l, .int y :: .int x :: s, h) = ev d t (l, .int (if y < x then y else x) :: s, h) := by rw [ev_sq, y_min hr] <;> rfl
theorem y_max {d : Nat} {x y : Int32} {i : Nat} {l s : AL} {h : AH} (hr : s.length ≤ 4) : ev d (lf (.invokestatic i) [904]) (l, .int y :: .int x :: s, h) = some (.inl 0, l, .int (if x < y then y else x) :: s, h) := ev_lf.trans ((leaf_c (by rfl) (by rfl)).trans (ctl_js (z1 := Value.int (if x < y then y else x) :: s) (z2 := h) (if_pos hr)))
theorem x_max {d : Nat} {x y : Int32} {i : Nat} {l s : AL} {h : AH} {t : AT} (hr : s.length ≤ 4) : ev d (sq (lf (.invokestatic i) [904]) t) (l, .int y :: .int x :: s, h) = ev d t (l, .int (if x < y then y else x) :: s, h) := by rw [ev_sq, y_max hr] <;> rfl
theorem y_is2 {d : Nat} {h : AH} {y i : Nat} {u0 u1 : Value} {l s : AL} (hr : s.length ≤ 4) : ev d (lf (.invokestatic i) [y, 2]) (l, u1 :: u0 :: s, h) = callR (evC d y [u0, u1] h) l s := by
  rw [ev_lf]
  show (if 2 ≤ (u1 :: u0 :: s).length ∧ s.length ≤ 4 then _ else _) = _
  rw [if_pos ⟨by simp only [List.length_cons]; omega, hr⟩]
  rfl
theorem x_is2 {d : Nat} {h : AH} {y i : Nat} {u0 u1 : Value} {l s : AL} {t : AT} (hr : s.length ≤ 4) : ev d (sq (lf (.invokestatic i) [y, 2]) t) (l, u1 :: u0 :: s, h) = seqR (ev d t) (callR (evC d y [u0, u1] h) l s) := by rw [ev_sq, y_is2 hr] <;> rfl
theorem y_is1 {d : Nat} {h : AH} {y i : Nat} {u0 : Value} {l s : AL} (hr : s.length ≤ 4) : ev d (lf (.invokestatic i) [y, 1]) (l, u0 :: s, h) = callR (evC d y [u0] h) l s := by
  rw [ev_lf]
  show (if 1 ≤ (u0 :: s).length ∧ s.length ≤ 4 then _ else _) = _
  rw [if_pos ⟨by simp only [List.length_cons]; omega, hr⟩]
  rfl
theorem x_is1 {d : Nat} {h : AH} {y i : Nat} {u0 : Value} {l s : AL} {t : AT} (hr : s.length ≤ 4) : ev d (sq (lf (.invokestatic i) [y, 1]) t) (l, u0 :: s, h) = seqR (ev d t) (callR (evC d y [u0] h) l s) := by rw [ev_sq, y_is1 hr] <;> rfl
theorem y_is3 {d : Nat} {h : AH} {y i : Nat} {u0 u1 u2 : Value} {l s : AL} (hr : s.length ≤ 4) : ev d (lf (.invokestatic i) [y, 3]) (l, u2 :: u1 :: u0 :: s, h) = callR (evC d y [u0, u1, u2] h) l s := by
  rw [ev_lf]
  show (if 3 ≤ (u2 :: u1 :: u0 :: s).length ∧ s.length ≤ 4 then _ else _) = _
  rw [if_pos ⟨by simp only [List.length_cons]; omega, hr⟩]
  rfl
theorem x_is3 {d : Nat} {h : AH} {y i : Nat} {u0 u1 u2 : Value} {l s : AL} {t : AT} (hr : s.length ≤ 4) : ev d (sq (lf (.invokestatic i) [y, 3]) t) (l, u2 :: u1 :: u0 :: s, h) = seqR (ev d t) (callR (evC d y [u0, u1, u2] h) l s) := by rw [ev_sq, y_is3 hr] <;> rfl
theorem y_is7 {d : Nat} {h : AH} {y i : Nat} {u0 u1 u2 u3 u4 u5 u6 : Value} {l s : AL} (hr : s.length ≤ 4) : ev d (lf (.invokestatic i) [y, 7]) (l, u6 :: u5 :: u4 :: u3 :: u2 :: u1 :: u0 :: s, h) = callR (evC d y [u0, u1, u2, u3, u4, u5, u6] h) l s := by
  rw [ev_lf]
  show (if 7 ≤ (u6 :: u5 :: u4 :: u3 :: u2 :: u1 :: u0 :: s).length ∧ s.length ≤ 4 then _ else _) = _
  rw [if_pos ⟨by simp only [List.length_cons]; omega, hr⟩]
  rfl
theorem x_is7 {d : Nat} {h : AH} {y i : Nat} {u0 u1 u2 u3 u4 u5 u6 : Value} {l s : AL} {t : AT} (hr : s.length ≤ 4) : ev d (sq (lf (.invokestatic i) [y, 7]) t) (l, u6 :: u5 :: u4 :: u3 :: u2 :: u1 :: u0 :: s, h) = seqR (ev d t) (callR (evC d y [u0, u1, u2, u3, u4, u5, u6] h) l s) := by rw [ev_sq, y_is7 hr] <;> rfl
theorem y_is4 {d : Nat} {h : AH} {y i : Nat} {u0 u1 u2 u3 : Value} {l s : AL} (hr : s.length ≤ 4) : ev d (lf (.invokestatic i) [y, 4]) (l, u3 :: u2 :: u1 :: u0 :: s, h) = callR (evC d y [u0, u1, u2, u3] h) l s := by
  rw [ev_lf]
  show (if 4 ≤ (u3 :: u2 :: u1 :: u0 :: s).length ∧ s.length ≤ 4 then _ else _) = _
  rw [if_pos ⟨by simp only [List.length_cons]; omega, hr⟩]
  rfl
theorem x_is4 {d : Nat} {h : AH} {y i : Nat} {u0 u1 u2 u3 : Value} {l s : AL} {t : AT} (hr : s.length ≤ 4) : ev d (sq (lf (.invokestatic i) [y, 4]) t) (l, u3 :: u2 :: u1 :: u0 :: s, h) = seqR (ev d t) (callR (evC d y [u0, u1, u2, u3] h) l s) := by rw [ev_sq, y_is4 hr] <;> rfl
theorem y_is10 {d : Nat} {h : AH} {y i : Nat} {u0 u1 u2 u3 u4 u5 u6 u7 u8 u9 : Value} {l s : AL} (hr : s.length ≤ 4) : ev d (lf (.invokestatic i) [y, 10]) (l, u9 :: u8 :: u7 :: u6 :: u5 :: u4 :: u3 :: u2 :: u1 :: u0 :: s, h) = callR (evC d y [u0, u1, u2, u3, u4, u5, u6, u7, u8, u9] h) l s := by
  rw [ev_lf]
  show (if 10 ≤ (u9 :: u8 :: u7 :: u6 :: u5 :: u4 :: u3 :: u2 :: u1 :: u0 :: s).length ∧ s.length ≤ 4 then _ else _) = _
  rw [if_pos ⟨by simp only [List.length_cons]; omega, hr⟩]
  rfl
theorem x_is10 {d : Nat} {h : AH} {y i : Nat} {u0 u1 u2 u3 u4 u5 u6 u7 u8 u9 : Value} {l s : AL} {t : AT} (hr : s.length ≤ 4) : ev d (sq (lf (.invokestatic i) [y, 10]) t) (l, u9 :: u8 :: u7 :: u6 :: u5 :: u4 :: u3 :: u2 :: u1 :: u0 :: s, h) = seqR (ev d t) (callR (evC d y [u0, u1, u2, u3, u4, u5, u6, u7, u8, u9] h) l s) := by rw [ev_sq, y_is10 hr] <;> rfl
theorem y_is5 {d : Nat} {h : AH} {y i : Nat} {u0 u1 u2 u3 u4 : Value} {l s : AL} (hr : s.length ≤ 4) : ev d (lf (.invokestatic i) [y, 5]) (l, u4 :: u3 :: u2 :: u1 :: u0 :: s, h) = callR (evC d y [u0, u1, u2, u3, u4] h) l s := by
  rw [ev_lf]
  show (if 5 ≤ (u4 :: u3 :: u2 :: u1 :: u0 :: s).length ∧ s.length ≤ 4 then _ else _) = _
  rw [if_pos ⟨by simp only [List.length_cons]; omega, hr⟩]
  rfl
theorem x_is5 {d : Nat} {h : AH} {y i : Nat} {u0 u1 u2 u3 u4 : Value} {l s : AL} {t : AT} (hr : s.length ≤ 4) : ev d (sq (lf (.invokestatic i) [y, 5]) t) (l, u4 :: u3 :: u2 :: u1 :: u0 :: s, h) = seqR (ev d t) (callR (evC d y [u0, u1, u2, u3, u4] h) l s) := by rw [ev_sq, y_is5 hr] <;> rfl
theorem y_is6 {d : Nat} {h : AH} {y i : Nat} {u0 u1 u2 u3 u4 u5 : Value} {l s : AL} (hr : s.length ≤ 4) : ev d (lf (.invokestatic i) [y, 6]) (l, u5 :: u4 :: u3 :: u2 :: u1 :: u0 :: s, h) = callR (evC d y [u0, u1, u2, u3, u4, u5] h) l s := by
  rw [ev_lf]
  show (if 6 ≤ (u5 :: u4 :: u3 :: u2 :: u1 :: u0 :: s).length ∧ s.length ≤ 4 then _ else _) = _
  rw [if_pos ⟨by simp only [List.length_cons]; omega, hr⟩]
  rfl
theorem x_is6 {d : Nat} {h : AH} {y i : Nat} {u0 u1 u2 u3 u4 u5 : Value} {l s : AL} {t : AT} (hr : s.length ≤ 4) : ev d (sq (lf (.invokestatic i) [y, 6]) t) (l, u5 :: u4 :: u3 :: u2 :: u1 :: u0 :: s, h) = seqR (ev d t) (callR (evC d y [u0, u1, u2, u3, u4, u5] h) l s) := by rw [ev_sq, y_is6 hr] <;> rfl
theorem y_is9 {d : Nat} {h : AH} {y i : Nat} {u0 u1 u2 u3 u4 u5 u6 u7 u8 : Value} {l s : AL} (hr : s.length ≤ 4) : ev d (lf (.invokestatic i) [y, 9]) (l, u8 :: u7 :: u6 :: u5 :: u4 :: u3 :: u2 :: u1 :: u0 :: s, h) = callR (evC d y [u0, u1, u2, u3, u4, u5, u6, u7, u8] h) l s := by
  rw [ev_lf]
  show (if 9 ≤ (u8 :: u7 :: u6 :: u5 :: u4 :: u3 :: u2 :: u1 :: u0 :: s).length ∧ s.length ≤ 4 then _ else _) = _
  rw [if_pos ⟨by simp only [List.length_cons]; omega, hr⟩]
  rfl
theorem x_is9 {d : Nat} {h : AH} {y i : Nat} {u0 u1 u2 u3 u4 u5 u6 u7 u8 : Value} {l s : AL} {t : AT} (hr : s.length ≤ 4) : ev d (sq (lf (.invokestatic i) [y, 9]) t) (l, u8 :: u7 :: u6 :: u5 :: u4 :: u3 :: u2 :: u1 :: u0 :: s, h) = seqR (ev d t) (callR (evC d y [u0, u1, u2, u3, u4, u5, u6, u7, u8] h) l s) := by rw [ev_sq, y_is9 hr] <;> rfl
theorem y_acopy {d : Nat} {M : MM} {a b i n : Nat} {l s : AL} (ha : cl M a = 20) (hb : cl M b = 20) (hn : n ≤ ln M a) (hm : n ≤ ln M b) (hi : n < 2 ^ 31) (hr : s.length ≤ 4) : ev d (lf (.invokestatic i) [902]) (l, .int (nI n) :: .int (nI 0) :: .ref b :: .int (nI 0) :: .ref a :: s, toH M) = some (.inl 0, l, s, toH (setA M b (va_cpy (ai M a) (ai M b) 0 0 n))) := jk_cpy ha hb hn hm hi hr
theorem x_acopy {d : Nat} {M : MM} {a b i n : Nat} {l s : AL} {t : AT} (ha : cl M a = 20) (hb : cl M b = 20) (hn : n ≤ ln M a) (hm : n ≤ ln M b) (hi : n < 2 ^ 31) (hr : s.length ≤ 4) : ev d (sq (lf (.invokestatic i) [902]) t) (l, .int (nI n) :: .int (nI 0) :: .ref b :: .int (nI 0) :: .ref a :: s, toH M) = ev d t (l, s, toH (setA M b (va_cpy (ai M a) (ai M b) 0 0 n))) := by rw [ev_sq, y_acopy ha hb hn hm hi hr] <;> rfl
theorem y_iv5 {d : Nat} {M : MM} {y b i ci : Nat} {u0 u1 u2 u3 u4 : Value} {l s : AL} (hc : cl M b = ci) (hi : ci < 10) (hr : s.length ≤ 4) : ev d (lf (.invokevirtual i) [y, 5, ci]) (l, u4 :: u3 :: u2 :: u1 :: u0 :: .ref b :: s, toH M) = callR (evC d y [.ref b, u0, u1, u2, u3, u4] (toH M)) l s := by
  rw [ev_lf]
  show (match oAt (toH M) b with | some (c, _) => if c = ci ∧ s.length ≤ 4 then _ else _ | none => _) = _
  rw [oAt_t hc hi]
  exact if_pos ⟨rfl, hr⟩
theorem x_iv5 {d : Nat} {M : MM} {y b i ci : Nat} {u0 u1 u2 u3 u4 : Value} {l s : AL} {t : AT} (hc : cl M b = ci) (hi : ci < 10) (hr : s.length ≤ 4) : ev d (sq (lf (.invokevirtual i) [y, 5, ci]) t) (l, u4 :: u3 :: u2 :: u1 :: u0 :: .ref b :: s, toH M) = seqR (ev d t) (callR (evC d y [.ref b, u0, u1, u2, u3, u4] (toH M)) l s) := by rw [ev_sq, y_iv5 hc hi hr] <;> rfl
theorem y_iv1 {d : Nat} {M : MM} {y b i ci : Nat} {u0 : Value} {l s : AL} (hc : cl M b = ci) (hi : ci < 10) (hr : s.length ≤ 4) : ev d (lf (.invokevirtual i) [y, 1, ci]) (l, u0 :: .ref b :: s, toH M) = callR (evC d y [.ref b, u0] (toH M)) l s := by
  rw [ev_lf]
  show (match oAt (toH M) b with | some (c, _) => if c = ci ∧ s.length ≤ 4 then _ else _ | none => _) = _
  rw [oAt_t hc hi]
  exact if_pos ⟨rfl, hr⟩
theorem x_iv1 {d : Nat} {M : MM} {y b i ci : Nat} {u0 : Value} {l s : AL} {t : AT} (hc : cl M b = ci) (hi : ci < 10) (hr : s.length ≤ 4) : ev d (sq (lf (.invokevirtual i) [y, 1, ci]) t) (l, u0 :: .ref b :: s, toH M) = seqR (ev d t) (callR (evC d y [.ref b, u0] (toH M)) l s) := by rw [ev_sq, y_iv1 hc hi hr] <;> rfl
theorem y_iv2 {d : Nat} {M : MM} {y b i ci : Nat} {u0 u1 : Value} {l s : AL} (hc : cl M b = ci) (hi : ci < 10) (hr : s.length ≤ 4) : ev d (lf (.invokevirtual i) [y, 2, ci]) (l, u1 :: u0 :: .ref b :: s, toH M) = callR (evC d y [.ref b, u0, u1] (toH M)) l s := by
  rw [ev_lf]
  show (match oAt (toH M) b with | some (c, _) => if c = ci ∧ s.length ≤ 4 then _ else _ | none => _) = _
  rw [oAt_t hc hi]
  exact if_pos ⟨rfl, hr⟩
theorem x_iv2 {d : Nat} {M : MM} {y b i ci : Nat} {u0 u1 : Value} {l s : AL} {t : AT} (hc : cl M b = ci) (hi : ci < 10) (hr : s.length ≤ 4) : ev d (sq (lf (.invokevirtual i) [y, 2, ci]) t) (l, u1 :: u0 :: .ref b :: s, toH M) = seqR (ev d t) (callR (evC d y [.ref b, u0, u1] (toH M)) l s) := by rw [ev_sq, y_iv2 hc hi hr] <;> rfl
theorem y_iv0 {d : Nat} {M : MM} {y b i ci : Nat} {l s : AL} (hc : cl M b = ci) (hi : ci < 10) (hr : s.length ≤ 4) : ev d (lf (.invokevirtual i) [y, 0, ci]) (l, .ref b :: s, toH M) = callR (evC d y [.ref b] (toH M)) l s := by
  rw [ev_lf]
  show (match oAt (toH M) b with | some (c, _) => if c = ci ∧ s.length ≤ 4 then _ else _ | none => _) = _
  rw [oAt_t hc hi]
  exact if_pos ⟨rfl, hr⟩
theorem x_iv0 {d : Nat} {M : MM} {y b i ci : Nat} {l s : AL} {t : AT} (hc : cl M b = ci) (hi : ci < 10) (hr : s.length ≤ 4) : ev d (sq (lf (.invokevirtual i) [y, 0, ci]) t) (l, .ref b :: s, toH M) = seqR (ev d t) (callR (evC d y [.ref b] (toH M)) l s) := by rw [ev_sq, y_iv0 hc hi hr] <;> rfl
theorem y_iv4 {d : Nat} {M : MM} {y b i ci : Nat} {u0 u1 u2 u3 : Value} {l s : AL} (hc : cl M b = ci) (hi : ci < 10) (hr : s.length ≤ 4) : ev d (lf (.invokevirtual i) [y, 4, ci]) (l, u3 :: u2 :: u1 :: u0 :: .ref b :: s, toH M) = callR (evC d y [.ref b, u0, u1, u2, u3] (toH M)) l s := by
  rw [ev_lf]
  show (match oAt (toH M) b with | some (c, _) => if c = ci ∧ s.length ≤ 4 then _ else _ | none => _) = _
  rw [oAt_t hc hi]
  exact if_pos ⟨rfl, hr⟩
theorem x_iv4 {d : Nat} {M : MM} {y b i ci : Nat} {u0 u1 u2 u3 : Value} {l s : AL} {t : AT} (hc : cl M b = ci) (hi : ci < 10) (hr : s.length ≤ 4) : ev d (sq (lf (.invokevirtual i) [y, 4, ci]) t) (l, u3 :: u2 :: u1 :: u0 :: .ref b :: s, toH M) = seqR (ev d t) (callR (evC d y [.ref b, u0, u1, u2, u3] (toH M)) l s) := by rw [ev_sq, y_iv4 hc hi hr] <;> rfl
theorem y_iv3 {d : Nat} {M : MM} {y b i ci : Nat} {u0 u1 u2 : Value} {l s : AL} (hc : cl M b = ci) (hi : ci < 10) (hr : s.length ≤ 4) : ev d (lf (.invokevirtual i) [y, 3, ci]) (l, u2 :: u1 :: u0 :: .ref b :: s, toH M) = callR (evC d y [.ref b, u0, u1, u2] (toH M)) l s := by
  rw [ev_lf]
  show (match oAt (toH M) b with | some (c, _) => if c = ci ∧ s.length ≤ 4 then _ else _ | none => _) = _
  rw [oAt_t hc hi]
  exact if_pos ⟨rfl, hr⟩
theorem x_iv3 {d : Nat} {M : MM} {y b i ci : Nat} {u0 u1 u2 : Value} {l s : AL} {t : AT} (hc : cl M b = ci) (hi : ci < 10) (hr : s.length ≤ 4) : ev d (sq (lf (.invokevirtual i) [y, 3, ci]) t) (l, u2 :: u1 :: u0 :: .ref b :: s, toH M) = seqR (ev d t) (callR (evC d y [.ref b, u0, u1, u2] (toH M)) l s) := by rw [ev_sq, y_iv3 hc hi hr] <;> rfl
theorem y_iv7 {d : Nat} {M : MM} {y b i ci : Nat} {u0 u1 u2 u3 u4 u5 u6 : Value} {l s : AL} (hc : cl M b = ci) (hi : ci < 10) (hr : s.length ≤ 4) : ev d (lf (.invokevirtual i) [y, 7, ci]) (l, u6 :: u5 :: u4 :: u3 :: u2 :: u1 :: u0 :: .ref b :: s, toH M) = callR (evC d y [.ref b, u0, u1, u2, u3, u4, u5, u6] (toH M)) l s := by
  rw [ev_lf]
  show (match oAt (toH M) b with | some (c, _) => if c = ci ∧ s.length ≤ 4 then _ else _ | none => _) = _
  rw [oAt_t hc hi]
  exact if_pos ⟨rfl, hr⟩
theorem x_iv7 {d : Nat} {M : MM} {y b i ci : Nat} {u0 u1 u2 u3 u4 u5 u6 : Value} {l s : AL} {t : AT} (hc : cl M b = ci) (hi : ci < 10) (hr : s.length ≤ 4) : ev d (sq (lf (.invokevirtual i) [y, 7, ci]) t) (l, u6 :: u5 :: u4 :: u3 :: u2 :: u1 :: u0 :: .ref b :: s, toH M) = seqR (ev d t) (callR (evC d y [.ref b, u0, u1, u2, u3, u4, u5, u6] (toH M)) l s) := by rw [ev_sq, y_iv7 hc hi hr] <;> rfl
theorem y_iv8 {d : Nat} {M : MM} {y b i ci : Nat} {u0 u1 u2 u3 u4 u5 u6 u7 : Value} {l s : AL} (hc : cl M b = ci) (hi : ci < 10) (hr : s.length ≤ 4) : ev d (lf (.invokevirtual i) [y, 8, ci]) (l, u7 :: u6 :: u5 :: u4 :: u3 :: u2 :: u1 :: u0 :: .ref b :: s, toH M) = callR (evC d y [.ref b, u0, u1, u2, u3, u4, u5, u6, u7] (toH M)) l s := by
  rw [ev_lf]
  show (match oAt (toH M) b with | some (c, _) => if c = ci ∧ s.length ≤ 4 then _ else _ | none => _) = _
  rw [oAt_t hc hi]
  exact if_pos ⟨rfl, hr⟩
theorem x_iv8 {d : Nat} {M : MM} {y b i ci : Nat} {u0 u1 u2 u3 u4 u5 u6 u7 : Value} {l s : AL} {t : AT} (hc : cl M b = ci) (hi : ci < 10) (hr : s.length ≤ 4) : ev d (sq (lf (.invokevirtual i) [y, 8, ci]) t) (l, u7 :: u6 :: u5 :: u4 :: u3 :: u2 :: u1 :: u0 :: .ref b :: s, toH M) = seqR (ev d t) (callR (evC d y [.ref b, u0, u1, u2, u3, u4, u5, u6, u7] (toH M)) l s) := by rw [ev_sq, y_iv8 hc hi hr] <;> rfl
theorem y_iv6 {d : Nat} {M : MM} {y b i ci : Nat} {u0 u1 u2 u3 u4 u5 : Value} {l s : AL} (hc : cl M b = ci) (hi : ci < 10) (hr : s.length ≤ 4) : ev d (lf (.invokevirtual i) [y, 6, ci]) (l, u5 :: u4 :: u3 :: u2 :: u1 :: u0 :: .ref b :: s, toH M) = callR (evC d y [.ref b, u0, u1, u2, u3, u4, u5] (toH M)) l s := by
  rw [ev_lf]
  show (match oAt (toH M) b with | some (c, _) => if c = ci ∧ s.length ≤ 4 then _ else _ | none => _) = _
  rw [oAt_t hc hi]
  exact if_pos ⟨rfl, hr⟩
theorem x_iv6 {d : Nat} {M : MM} {y b i ci : Nat} {u0 u1 u2 u3 u4 u5 : Value} {l s : AL} {t : AT} (hc : cl M b = ci) (hi : ci < 10) (hr : s.length ≤ 4) : ev d (sq (lf (.invokevirtual i) [y, 6, ci]) t) (l, u5 :: u4 :: u3 :: u2 :: u1 :: u0 :: .ref b :: s, toH M) = seqR (ev d t) (callR (evC d y [.ref b, u0, u1, u2, u3, u4, u5] (toH M)) l s) := by rw [ev_sq, y_iv6 hc hi hr] <;> rfl
theorem y_slen {d : Nat} {j i : Nat} {l s : AL} {h : AH} (hj : j < 24) (hr : s.length ≤ 4) : ev d (lf (.invokevirtual i) [900]) (l, .ref (1500000 + j) :: s, h) = some (.inl 0, l, .int (nI (sLen.getD j 0)) :: s, h) := jk_len hj hr
theorem x_slen {d : Nat} {j i : Nat} {l s : AL} {h : AH} {t : AT} (hj : j < 24) (hr : s.length ≤ 4) : ev d (sq (lf (.invokevirtual i) [900]) t) (l, .ref (1500000 + j) :: s, h) = ev d t (l, .int (nI (sLen.getD j 0)) :: s, h) := by rw [ev_sq, y_slen hj hr] <;> rfl
theorem y_schar {d : Nat} {j i k : Nat} {l s : AL} {h : AH} (hj : j < 24) (hk : k < sLen.getD j 0) (hb : k < 2 ^ 31) (hr : s.length ≤ 4) : ev d (lf (.invokevirtual i) [901]) (l, .int (nI k) :: .ref (1500000 + j) :: s, h) = some (.inl 0, l, .int ((sBy.getD j []).getD k 0) :: s, h) := jk_chr hj hk hb hr
theorem x_schar {d : Nat} {j i k : Nat} {l s : AL} {h : AH} {t : AT} (hj : j < 24) (hk : k < sLen.getD j 0) (hb : k < 2 ^ 31) (hr : s.length ≤ 4) : ev d (sq (lf (.invokevirtual i) [901]) t) (l, .int (nI k) :: .ref (1500000 + j) :: s, h) = ev d t (l, .int ((sBy.getD j []).getD k 0) :: s, h) := by rw [ev_sq, y_schar hj hk hb hr] <;> rfl
theorem y_ior {d : Nat} {x y : Int32} {l s : AL} {h : AH} : ev d (lf (.ior) []) (l, .int y :: .int x :: s, h) = some (.inl 0, l, .int (x ||| y) :: s, h) := by rw [ev_lf]; rfl
theorem x_ior {d : Nat} {x y : Int32} {l s : AL} {h : AH} {t : AT} : ev d (sq (lf (.ior) []) t) (l, .int y :: .int x :: s, h) = ev d t (l, .int (x ||| y) :: s, h) := by rw [ev_sq, y_ior] <;> rfl
theorem y_irem {d : Nat} {x y : Int32} {l s : AL} {h : AH} (h0 : ¬ y = 0) : ev d (lf (.irem) []) (l, .int y :: .int x :: s, h) = some (.inl 0, l, .int (x - x / y * y) :: s, h) := ev_lf.trans (leaf_s (q := (l, .int (x - x / y * y) :: s)) (if_neg (t := none) h0))
theorem x_irem {d : Nat} {x y : Int32} {l s : AL} {h : AH} {t : AT} (h0 : ¬ y = 0) : ev d (sq (lf (.irem) []) t) (l, .int y :: .int x :: s, h) = ev d t (l, .int (x - x / y * y) :: s, h) := by rw [ev_sq, y_irem h0] <;> rfl
theorem y_iret {d : Nat} {x : Int32} {l : AL} {h : AH} : ev d (lf (.ireturn) [1]) (l, [.int x], h) = some (.inr (.inl (some (.int x))), l, [], h) := by rw [ev_lf]; rfl
theorem y_bret {d : Nat} {x : Int32} {l : AL} {h : AH} (hb : x = 0 ∨ x = 1) : ev d (lf (.ireturn) [2]) (l, [.int x], h) = some (.inr (.inl (some (.int x))), l, [], h) := by
  rw [ev_lf]
  show (if x = 0 ∨ x = 1 then _ else _) = _
  rw [if_pos hb]
theorem y_ishl {d : Nat} {x y : Int32} {l s : AL} {h : AH} : ev d (lf (.ishl) []) (l, .int y :: .int x :: s, h) = some (.inl 0, l, .int (x <<< (y &&& 31)) :: s, h) := by rw [ev_lf]; rfl
theorem x_ishl {d : Nat} {x y : Int32} {l s : AL} {h : AH} {t : AT} : ev d (sq (lf (.ishl) []) t) (l, .int y :: .int x :: s, h) = ev d t (l, .int (x <<< (y &&& 31)) :: s, h) := by rw [ev_sq, y_ishl] <;> rfl
theorem y_ishr {d : Nat} {x y : Int32} {l s : AL} {h : AH} : ev d (lf (.ishr) []) (l, .int y :: .int x :: s, h) = some (.inl 0, l, .int (x >>> (y &&& 31)) :: s, h) := by rw [ev_lf]; rfl
theorem x_ishr {d : Nat} {x y : Int32} {l s : AL} {h : AH} {t : AT} : ev d (sq (lf (.ishr) []) t) (l, .int y :: .int x :: s, h) = ev d t (l, .int (x >>> (y &&& 31)) :: s, h) := by rw [ev_sq, y_ishr] <;> rfl
theorem y_istore10 {d : Nat} {v0 v1 v2 v3 v4 v5 v6 v7 v8 v9 v10 : Value} {x : Int32} {l s : AL} {h : AH} : ev d (lf (.istore 10) []) (v0 :: v1 :: v2 :: v3 :: v4 :: v5 :: v6 :: v7 :: v8 :: v9 :: v10 :: l, .int x :: s, h) = some (.inl 0, lset1 (v0 :: v1 :: v2 :: v3 :: v4 :: v5 :: v6 :: v7 :: v8 :: v9 :: v10 :: l) 10 (.int x), s, h) := ev_lf.trans (leaf_s (q := (lset1 (v0 :: v1 :: v2 :: v3 :: v4 :: v5 :: v6 :: v7 :: v8 :: v9 :: v10 :: l) 10 (.int x), s)) (if_pos (e := none) (show 10 < (v0 :: v1 :: v2 :: v3 :: v4 :: v5 :: v6 :: v7 :: v8 :: v9 :: v10 :: l).length by simp only [List.length_cons]; omega)))
theorem x_istore10 {d : Nat} {v0 v1 v2 v3 v4 v5 v6 v7 v8 v9 v10 : Value} {x : Int32} {l s : AL} {h : AH} {t : AT} : ev d (sq (lf (.istore 10) []) t) (v0 :: v1 :: v2 :: v3 :: v4 :: v5 :: v6 :: v7 :: v8 :: v9 :: v10 :: l, .int x :: s, h) = ev d t (lset1 (v0 :: v1 :: v2 :: v3 :: v4 :: v5 :: v6 :: v7 :: v8 :: v9 :: v10 :: l) 10 (.int x), s, h) := by rw [ev_sq, y_istore10] <;> rfl
theorem y_istore11 {d : Nat} {v0 v1 v2 v3 v4 v5 v6 v7 v8 v9 v10 v11 : Value} {x : Int32} {l s : AL} {h : AH} : ev d (lf (.istore 11) []) (v0 :: v1 :: v2 :: v3 :: v4 :: v5 :: v6 :: v7 :: v8 :: v9 :: v10 :: v11 :: l, .int x :: s, h) = some (.inl 0, lset1 (v0 :: v1 :: v2 :: v3 :: v4 :: v5 :: v6 :: v7 :: v8 :: v9 :: v10 :: v11 :: l) 11 (.int x), s, h) := ev_lf.trans (leaf_s (q := (lset1 (v0 :: v1 :: v2 :: v3 :: v4 :: v5 :: v6 :: v7 :: v8 :: v9 :: v10 :: v11 :: l) 11 (.int x), s)) (if_pos (e := none) (show 11 < (v0 :: v1 :: v2 :: v3 :: v4 :: v5 :: v6 :: v7 :: v8 :: v9 :: v10 :: v11 :: l).length by simp only [List.length_cons]; omega)))
theorem x_istore11 {d : Nat} {v0 v1 v2 v3 v4 v5 v6 v7 v8 v9 v10 v11 : Value} {x : Int32} {l s : AL} {h : AH} {t : AT} : ev d (sq (lf (.istore 11) []) t) (v0 :: v1 :: v2 :: v3 :: v4 :: v5 :: v6 :: v7 :: v8 :: v9 :: v10 :: v11 :: l, .int x :: s, h) = ev d t (lset1 (v0 :: v1 :: v2 :: v3 :: v4 :: v5 :: v6 :: v7 :: v8 :: v9 :: v10 :: v11 :: l) 11 (.int x), s, h) := by rw [ev_sq, y_istore11] <;> rfl
theorem y_istore12 {d : Nat} {v0 v1 v2 v3 v4 v5 v6 v7 v8 v9 v10 v11 v12 : Value} {x : Int32} {l s : AL} {h : AH} : ev d (lf (.istore 12) []) (v0 :: v1 :: v2 :: v3 :: v4 :: v5 :: v6 :: v7 :: v8 :: v9 :: v10 :: v11 :: v12 :: l, .int x :: s, h) = some (.inl 0, lset1 (v0 :: v1 :: v2 :: v3 :: v4 :: v5 :: v6 :: v7 :: v8 :: v9 :: v10 :: v11 :: v12 :: l) 12 (.int x), s, h) := ev_lf.trans (leaf_s (q := (lset1 (v0 :: v1 :: v2 :: v3 :: v4 :: v5 :: v6 :: v7 :: v8 :: v9 :: v10 :: v11 :: v12 :: l) 12 (.int x), s)) (if_pos (e := none) (show 12 < (v0 :: v1 :: v2 :: v3 :: v4 :: v5 :: v6 :: v7 :: v8 :: v9 :: v10 :: v11 :: v12 :: l).length by simp only [List.length_cons]; omega)))
theorem x_istore12 {d : Nat} {v0 v1 v2 v3 v4 v5 v6 v7 v8 v9 v10 v11 v12 : Value} {x : Int32} {l s : AL} {h : AH} {t : AT} : ev d (sq (lf (.istore 12) []) t) (v0 :: v1 :: v2 :: v3 :: v4 :: v5 :: v6 :: v7 :: v8 :: v9 :: v10 :: v11 :: v12 :: l, .int x :: s, h) = ev d t (lset1 (v0 :: v1 :: v2 :: v3 :: v4 :: v5 :: v6 :: v7 :: v8 :: v9 :: v10 :: v11 :: v12 :: l) 12 (.int x), s, h) := by rw [ev_sq, y_istore12] <;> rfl
theorem y_istore4 {d : Nat} {v0 v1 v2 v3 v4 : Value} {x : Int32} {l s : AL} {h : AH} : ev d (lf (.istore 4) []) (v0 :: v1 :: v2 :: v3 :: v4 :: l, .int x :: s, h) = some (.inl 0, lset1 (v0 :: v1 :: v2 :: v3 :: v4 :: l) 4 (.int x), s, h) := ev_lf.trans (leaf_s (q := (lset1 (v0 :: v1 :: v2 :: v3 :: v4 :: l) 4 (.int x), s)) (if_pos (e := none) (show 4 < (v0 :: v1 :: v2 :: v3 :: v4 :: l).length by simp only [List.length_cons]; omega)))
theorem x_istore4 {d : Nat} {v0 v1 v2 v3 v4 : Value} {x : Int32} {l s : AL} {h : AH} {t : AT} : ev d (sq (lf (.istore 4) []) t) (v0 :: v1 :: v2 :: v3 :: v4 :: l, .int x :: s, h) = ev d t (lset1 (v0 :: v1 :: v2 :: v3 :: v4 :: l) 4 (.int x), s, h) := by rw [ev_sq, y_istore4] <;> rfl
theorem y_istore5 {d : Nat} {v0 v1 v2 v3 v4 v5 : Value} {x : Int32} {l s : AL} {h : AH} : ev d (lf (.istore 5) []) (v0 :: v1 :: v2 :: v3 :: v4 :: v5 :: l, .int x :: s, h) = some (.inl 0, lset1 (v0 :: v1 :: v2 :: v3 :: v4 :: v5 :: l) 5 (.int x), s, h) := ev_lf.trans (leaf_s (q := (lset1 (v0 :: v1 :: v2 :: v3 :: v4 :: v5 :: l) 5 (.int x), s)) (if_pos (e := none) (show 5 < (v0 :: v1 :: v2 :: v3 :: v4 :: v5 :: l).length by simp only [List.length_cons]; omega)))
theorem x_istore5 {d : Nat} {v0 v1 v2 v3 v4 v5 : Value} {x : Int32} {l s : AL} {h : AH} {t : AT} : ev d (sq (lf (.istore 5) []) t) (v0 :: v1 :: v2 :: v3 :: v4 :: v5 :: l, .int x :: s, h) = ev d t (lset1 (v0 :: v1 :: v2 :: v3 :: v4 :: v5 :: l) 5 (.int x), s, h) := by rw [ev_sq, y_istore5] <;> rfl
theorem y_istore6 {d : Nat} {v0 v1 v2 v3 v4 v5 v6 : Value} {x : Int32} {l s : AL} {h : AH} : ev d (lf (.istore 6) []) (v0 :: v1 :: v2 :: v3 :: v4 :: v5 :: v6 :: l, .int x :: s, h) = some (.inl 0, lset1 (v0 :: v1 :: v2 :: v3 :: v4 :: v5 :: v6 :: l) 6 (.int x), s, h) := ev_lf.trans (leaf_s (q := (lset1 (v0 :: v1 :: v2 :: v3 :: v4 :: v5 :: v6 :: l) 6 (.int x), s)) (if_pos (e := none) (show 6 < (v0 :: v1 :: v2 :: v3 :: v4 :: v5 :: v6 :: l).length by simp only [List.length_cons]; omega)))
theorem x_istore6 {d : Nat} {v0 v1 v2 v3 v4 v5 v6 : Value} {x : Int32} {l s : AL} {h : AH} {t : AT} : ev d (sq (lf (.istore 6) []) t) (v0 :: v1 :: v2 :: v3 :: v4 :: v5 :: v6 :: l, .int x :: s, h) = ev d t (lset1 (v0 :: v1 :: v2 :: v3 :: v4 :: v5 :: v6 :: l) 6 (.int x), s, h) := by rw [ev_sq, y_istore6] <;> rfl
theorem y_istore7 {d : Nat} {v0 v1 v2 v3 v4 v5 v6 v7 : Value} {x : Int32} {l s : AL} {h : AH} : ev d (lf (.istore 7) []) (v0 :: v1 :: v2 :: v3 :: v4 :: v5 :: v6 :: v7 :: l, .int x :: s, h) = some (.inl 0, lset1 (v0 :: v1 :: v2 :: v3 :: v4 :: v5 :: v6 :: v7 :: l) 7 (.int x), s, h) := ev_lf.trans (leaf_s (q := (lset1 (v0 :: v1 :: v2 :: v3 :: v4 :: v5 :: v6 :: v7 :: l) 7 (.int x), s)) (if_pos (e := none) (show 7 < (v0 :: v1 :: v2 :: v3 :: v4 :: v5 :: v6 :: v7 :: l).length by simp only [List.length_cons]; omega)))
theorem x_istore7 {d : Nat} {v0 v1 v2 v3 v4 v5 v6 v7 : Value} {x : Int32} {l s : AL} {h : AH} {t : AT} : ev d (sq (lf (.istore 7) []) t) (v0 :: v1 :: v2 :: v3 :: v4 :: v5 :: v6 :: v7 :: l, .int x :: s, h) = ev d t (lset1 (v0 :: v1 :: v2 :: v3 :: v4 :: v5 :: v6 :: v7 :: l) 7 (.int x), s, h) := by rw [ev_sq, y_istore7] <;> rfl
theorem y_istore8 {d : Nat} {v0 v1 v2 v3 v4 v5 v6 v7 v8 : Value} {x : Int32} {l s : AL} {h : AH} : ev d (lf (.istore 8) []) (v0 :: v1 :: v2 :: v3 :: v4 :: v5 :: v6 :: v7 :: v8 :: l, .int x :: s, h) = some (.inl 0, lset1 (v0 :: v1 :: v2 :: v3 :: v4 :: v5 :: v6 :: v7 :: v8 :: l) 8 (.int x), s, h) := ev_lf.trans (leaf_s (q := (lset1 (v0 :: v1 :: v2 :: v3 :: v4 :: v5 :: v6 :: v7 :: v8 :: l) 8 (.int x), s)) (if_pos (e := none) (show 8 < (v0 :: v1 :: v2 :: v3 :: v4 :: v5 :: v6 :: v7 :: v8 :: l).length by simp only [List.length_cons]; omega)))
theorem x_istore8 {d : Nat} {v0 v1 v2 v3 v4 v5 v6 v7 v8 : Value} {x : Int32} {l s : AL} {h : AH} {t : AT} : ev d (sq (lf (.istore 8) []) t) (v0 :: v1 :: v2 :: v3 :: v4 :: v5 :: v6 :: v7 :: v8 :: l, .int x :: s, h) = ev d t (lset1 (v0 :: v1 :: v2 :: v3 :: v4 :: v5 :: v6 :: v7 :: v8 :: l) 8 (.int x), s, h) := by rw [ev_sq, y_istore8] <;> rfl
theorem y_istore9 {d : Nat} {v0 v1 v2 v3 v4 v5 v6 v7 v8 v9 : Value} {x : Int32} {l s : AL} {h : AH} : ev d (lf (.istore 9) []) (v0 :: v1 :: v2 :: v3 :: v4 :: v5 :: v6 :: v7 :: v8 :: v9 :: l, .int x :: s, h) = some (.inl 0, lset1 (v0 :: v1 :: v2 :: v3 :: v4 :: v5 :: v6 :: v7 :: v8 :: v9 :: l) 9 (.int x), s, h) := ev_lf.trans (leaf_s (q := (lset1 (v0 :: v1 :: v2 :: v3 :: v4 :: v5 :: v6 :: v7 :: v8 :: v9 :: l) 9 (.int x), s)) (if_pos (e := none) (show 9 < (v0 :: v1 :: v2 :: v3 :: v4 :: v5 :: v6 :: v7 :: v8 :: v9 :: l).length by simp only [List.length_cons]; omega)))
theorem x_istore9 {d : Nat} {v0 v1 v2 v3 v4 v5 v6 v7 v8 v9 : Value} {x : Int32} {l s : AL} {h : AH} {t : AT} : ev d (sq (lf (.istore 9) []) t) (v0 :: v1 :: v2 :: v3 :: v4 :: v5 :: v6 :: v7 :: v8 :: v9 :: l, .int x :: s, h) = ev d t (lset1 (v0 :: v1 :: v2 :: v3 :: v4 :: v5 :: v6 :: v7 :: v8 :: v9 :: l) 9 (.int x), s, h) := by rw [ev_sq, y_istore9] <;> rfl
theorem y_istore_n0 {d : Nat} {v0 : Value} {x : Int32} {l s : AL} {h : AH} : ev d (lf (.istore_n 0) []) (v0 :: l, .int x :: s, h) = some (.inl 0, lset1 (v0 :: l) 0 (.int x), s, h) := ev_lf.trans (leaf_s (q := (lset1 (v0 :: l) 0 (.int x), s)) (if_pos (e := none) (show 0 < (v0 :: l).length by simp only [List.length_cons]; omega)))
theorem x_istore_n0 {d : Nat} {v0 : Value} {x : Int32} {l s : AL} {h : AH} {t : AT} : ev d (sq (lf (.istore_n 0) []) t) (v0 :: l, .int x :: s, h) = ev d t (lset1 (v0 :: l) 0 (.int x), s, h) := by rw [ev_sq, y_istore_n0] <;> rfl
theorem y_istore_n1 {d : Nat} {v0 v1 : Value} {x : Int32} {l s : AL} {h : AH} : ev d (lf (.istore_n 1) []) (v0 :: v1 :: l, .int x :: s, h) = some (.inl 0, lset1 (v0 :: v1 :: l) 1 (.int x), s, h) := ev_lf.trans (leaf_s (q := (lset1 (v0 :: v1 :: l) 1 (.int x), s)) (if_pos (e := none) (show 1 < (v0 :: v1 :: l).length by simp only [List.length_cons]; omega)))
theorem x_istore_n1 {d : Nat} {v0 v1 : Value} {x : Int32} {l s : AL} {h : AH} {t : AT} : ev d (sq (lf (.istore_n 1) []) t) (v0 :: v1 :: l, .int x :: s, h) = ev d t (lset1 (v0 :: v1 :: l) 1 (.int x), s, h) := by rw [ev_sq, y_istore_n1] <;> rfl
theorem y_istore_n2 {d : Nat} {v0 v1 v2 : Value} {x : Int32} {l s : AL} {h : AH} : ev d (lf (.istore_n 2) []) (v0 :: v1 :: v2 :: l, .int x :: s, h) = some (.inl 0, lset1 (v0 :: v1 :: v2 :: l) 2 (.int x), s, h) := ev_lf.trans (leaf_s (q := (lset1 (v0 :: v1 :: v2 :: l) 2 (.int x), s)) (if_pos (e := none) (show 2 < (v0 :: v1 :: v2 :: l).length by simp only [List.length_cons]; omega)))
theorem x_istore_n2 {d : Nat} {v0 v1 v2 : Value} {x : Int32} {l s : AL} {h : AH} {t : AT} : ev d (sq (lf (.istore_n 2) []) t) (v0 :: v1 :: v2 :: l, .int x :: s, h) = ev d t (lset1 (v0 :: v1 :: v2 :: l) 2 (.int x), s, h) := by rw [ev_sq, y_istore_n2] <;> rfl
theorem y_istore_n3 {d : Nat} {v0 v1 v2 v3 : Value} {x : Int32} {l s : AL} {h : AH} : ev d (lf (.istore_n 3) []) (v0 :: v1 :: v2 :: v3 :: l, .int x :: s, h) = some (.inl 0, lset1 (v0 :: v1 :: v2 :: v3 :: l) 3 (.int x), s, h) := ev_lf.trans (leaf_s (q := (lset1 (v0 :: v1 :: v2 :: v3 :: l) 3 (.int x), s)) (if_pos (e := none) (show 3 < (v0 :: v1 :: v2 :: v3 :: l).length by simp only [List.length_cons]; omega)))
theorem x_istore_n3 {d : Nat} {v0 v1 v2 v3 : Value} {x : Int32} {l s : AL} {h : AH} {t : AT} : ev d (sq (lf (.istore_n 3) []) t) (v0 :: v1 :: v2 :: v3 :: l, .int x :: s, h) = ev d t (lset1 (v0 :: v1 :: v2 :: v3 :: l) 3 (.int x), s, h) := by rw [ev_sq, y_istore_n3] <;> rfl
theorem y_isub {d : Nat} {x y : Int32} {l s : AL} {h : AH} : ev d (lf (.isub) []) (l, .int y :: .int x :: s, h) = some (.inl 0, l, .int (x - y) :: s, h) := by rw [ev_lf]; rfl
theorem x_isub {d : Nat} {x y : Int32} {l s : AL} {h : AH} {t : AT} : ev d (sq (lf (.isub) []) t) (l, .int y :: .int x :: s, h) = ev d t (l, .int (x - y) :: s, h) := by rw [ev_sq, y_isub] <;> rfl
theorem y_iushr {d : Nat} {x y : Int32} {l s : AL} {h : AH} : ev d (lf (.iushr) []) (l, .int y :: .int x :: s, h) = some (.inl 0, l, .int ((x.toUInt32 >>> (y.toUInt32 &&& Int32.toUInt32 31)).toInt32) :: s, h) := by rw [ev_lf]; rfl
theorem x_iushr {d : Nat} {x y : Int32} {l s : AL} {h : AH} {t : AT} : ev d (sq (lf (.iushr) []) t) (l, .int y :: .int x :: s, h) = ev d t (l, .int ((x.toUInt32 >>> (y.toUInt32 &&& Int32.toUInt32 31)).toInt32) :: s, h) := by rw [ev_sq, y_iushr] <;> rfl
theorem y_ixor {d : Nat} {x y : Int32} {l s : AL} {h : AH} : ev d (lf (.ixor) []) (l, .int y :: .int x :: s, h) = some (.inl 0, l, .int (x ^^^ y) :: s, h) := by rw [ev_lf]; rfl
theorem x_ixor {d : Nat} {x y : Int32} {l s : AL} {h : AH} {t : AT} : ev d (sq (lf (.ixor) []) t) (l, .int y :: .int x :: s, h) = ev d t (l, .int (x ^^^ y) :: s, h) := by rw [ev_sq, y_ixor] <;> rfl
theorem y_ladd {d : Nat} {x y : Int64} {l s : AL} {h : AH} : ev d (lf (.ladd) []) (l, .long y :: .long x :: s, h) = some (.inl 0, l, .long (x + y) :: s, h) := by rw [ev_lf]; rfl
theorem x_ladd {d : Nat} {x y : Int64} {l s : AL} {h : AH} {t : AT} : ev d (sq (lf (.ladd) []) t) (l, .long y :: .long x :: s, h) = ev d t (l, .long (x + y) :: s, h) := by rw [ev_sq, y_ladd] <;> rfl
theorem y_laload {d : Nat} {M : MM} {a j : Nat} {l s : AL} (hc : cl M a = 21) (hj : j < ln M a) (hb : j < 2 ^ 31) : ev d (lf (.laload) []) (l, .int (nI j) :: .ref a :: s, toH M) = some (.inl 0, l, .long (al M a j) :: s, toH M) := ld_L hc hj hb
theorem x_laload {d : Nat} {M : MM} {a j : Nat} {l s : AL} {t : AT} (hc : cl M a = 21) (hj : j < ln M a) (hb : j < 2 ^ 31) : ev d (sq (lf (.laload) []) t) (l, .int (nI j) :: .ref a :: s, toH M) = ev d t (l, .long (al M a j) :: s, toH M) := by rw [ev_sq, y_laload hc hj hb] <;> rfl
theorem y_lastore {d : Nat} {M : MM} {a j : Nat} {x : Int64} {l s : AL} (hc : cl M a = 21) (hj : j < ln M a) (hb : j < 2 ^ 31) : ev d (lf (.lastore) []) (l, .long x :: .int (nI j) :: .ref a :: s, toH M) = some (.inl 0, l, s, toH (setL M a (vp_updL (al M a) j x))) := st_L hc hj hb
theorem x_lastore {d : Nat} {M : MM} {a j : Nat} {x : Int64} {l s : AL} {t : AT} (hc : cl M a = 21) (hj : j < ln M a) (hb : j < 2 ^ 31) : ev d (sq (lf (.lastore) []) t) (l, .long x :: .int (nI j) :: .ref a :: s, toH M) = ev d t (l, s, toH (setL M a (vp_updL (al M a) j x))) := by rw [ev_sq, y_lastore hc hj hb] <;> rfl
theorem y_lcmp {d : Nat} {x y : Int64} {l s : AL} {h : AH} : ev d (lf (.lcmp) []) (l, .long y :: .long x :: s, h) = some (.inl 0, l, .int (lg_cmp x y) :: s, h) := by rw [ev_lf]; rfl
theorem x_lcmp {d : Nat} {x y : Int64} {l s : AL} {h : AH} {t : AT} : ev d (sq (lf (.lcmp) []) t) (l, .long y :: .long x :: s, h) = ev d t (l, .int (lg_cmp x y) :: s, h) := by rw [ev_sq, y_lcmp] <;> rfl
theorem y_lconst0 {d : Nat} {l s : AL} {h : AH} : ev d (lf (.lconst 0) []) (l, s, h) = some (.inl 0, l, .long (lN 0) :: s, h) := by rw [ev_lf]; rfl
theorem x_lconst0 {d : Nat} {l s : AL} {h : AH} {t : AT} : ev d (sq (lf (.lconst 0) []) t) (l, s, h) = ev d t (l, .long (lN 0) :: s, h) := by rw [ev_sq, y_lconst0] <;> rfl
theorem y_lconst1 {d : Nat} {l s : AL} {h : AH} : ev d (lf (.lconst 1) []) (l, s, h) = some (.inl 0, l, .long (lN 1) :: s, h) := by rw [ev_lf]; rfl
theorem x_lconst1 {d : Nat} {l s : AL} {h : AH} {t : AT} : ev d (sq (lf (.lconst 1) []) t) (l, s, h) = ev d t (l, .long (lN 1) :: s, h) := by rw [ev_sq, y_lconst1] <;> rfl
theorem y_ldc_s {d : Nat} {l s : AL} {h : AH} {i j : Nat} : ev d (lf (.ldc i) [1, j]) (l, s, h) = some (.inl 0, l, .ref (1500000 + j) :: s, h) := by rw [ev_lf]; rfl
theorem x_ldc_s {d : Nat} {l s : AL} {h : AH} {i j : Nat} {t : AT} : ev d (sq (lf (.ldc i) [1, j]) t) (l, s, h) = ev d t (l, .ref (1500000 + j) :: s, h) := by rw [ev_sq, y_ldc_s] <;> rfl
theorem y_ldc_i {d : Nat} {l s : AL} {h : AH} {i v : Nat} : ev d (lf (.ldc i) [0, v]) (l, s, h) = some (.inl 0, l, .int (nI v) :: s, h) := by rw [ev_lf]; rfl
theorem x_ldc_i {d : Nat} {l s : AL} {h : AH} {i v : Nat} {t : AT} : ev d (sq (lf (.ldc i) [0, v]) t) (l, s, h) = ev d t (l, .int (nI v) :: s, h) := by rw [ev_sq, y_ldc_i] <;> rfl
theorem y_ldc2 {d : Nat} {l s : AL} {h : AH} {i v : Nat} : ev d (lf (.ldc2_w i) [v]) (l, s, h) = some (.inl 0, l, .long (lN v) :: s, h) := by rw [ev_lf]; rfl
theorem x_ldc2 {d : Nat} {l s : AL} {h : AH} {i v : Nat} {t : AT} : ev d (sq (lf (.ldc2_w i) [v]) t) (l, s, h) = ev d t (l, .long (lN v) :: s, h) := by rw [ev_sq, y_ldc2] <;> rfl
theorem y_ldc_w_i {d : Nat} {l s : AL} {h : AH} {i v : Nat} : ev d (lf (.ldc_w i) [0, v]) (l, s, h) = some (.inl 0, l, .int (nI v) :: s, h) := by rw [ev_lf]; rfl
theorem x_ldc_w_i {d : Nat} {l s : AL} {h : AH} {i v : Nat} {t : AT} : ev d (sq (lf (.ldc_w i) [0, v]) t) (l, s, h) = ev d t (l, .int (nI v) :: s, h) := by rw [ev_sq, y_ldc_w_i] <;> rfl
theorem y_ldiv {d : Nat} {x y : Int64} {l s : AL} {h : AH} (h0 : ¬ y = 0) : ev d (lf (.ldiv) []) (l, .long y :: .long x :: s, h) = some (.inl 0, l, .long (x / y) :: s, h) := ev_lf.trans (leaf_s (q := (l, .long (x / y) :: s)) (if_neg (t := none) h0))
theorem x_ldiv {d : Nat} {x y : Int64} {l s : AL} {h : AH} {t : AT} (h0 : ¬ y = 0) : ev d (sq (lf (.ldiv) []) t) (l, .long y :: .long x :: s, h) = ev d t (l, .long (x / y) :: s, h) := by rw [ev_sq, y_ldiv h0] <;> rfl
theorem y_lload4 {d : Nat} {v0 v1 v2 v3 : Value} {x : Int64} {l s : AL} {h : AH} : ev d (lf (.lload 4) []) (v0 :: v1 :: v2 :: v3 :: .long x :: l, s, h) = some (.inl 0, v0 :: v1 :: v2 :: v3 :: .long x :: l, .long x :: s, h) := by rw [ev_lf]; rfl
theorem x_lload4 {d : Nat} {v0 v1 v2 v3 : Value} {x : Int64} {l s : AL} {h : AH} {t : AT} : ev d (sq (lf (.lload 4) []) t) (v0 :: v1 :: v2 :: v3 :: .long x :: l, s, h) = ev d t (v0 :: v1 :: v2 :: v3 :: .long x :: l, .long x :: s, h) := by rw [ev_sq, y_lload4] <;> rfl
theorem y_lload5 {d : Nat} {v0 v1 v2 v3 v4 : Value} {x : Int64} {l s : AL} {h : AH} : ev d (lf (.lload 5) []) (v0 :: v1 :: v2 :: v3 :: v4 :: .long x :: l, s, h) = some (.inl 0, v0 :: v1 :: v2 :: v3 :: v4 :: .long x :: l, .long x :: s, h) := by rw [ev_lf]; rfl
theorem x_lload5 {d : Nat} {v0 v1 v2 v3 v4 : Value} {x : Int64} {l s : AL} {h : AH} {t : AT} : ev d (sq (lf (.lload 5) []) t) (v0 :: v1 :: v2 :: v3 :: v4 :: .long x :: l, s, h) = ev d t (v0 :: v1 :: v2 :: v3 :: v4 :: .long x :: l, .long x :: s, h) := by rw [ev_sq, y_lload5] <;> rfl
theorem y_lload6 {d : Nat} {v0 v1 v2 v3 v4 v5 : Value} {x : Int64} {l s : AL} {h : AH} : ev d (lf (.lload 6) []) (v0 :: v1 :: v2 :: v3 :: v4 :: v5 :: .long x :: l, s, h) = some (.inl 0, v0 :: v1 :: v2 :: v3 :: v4 :: v5 :: .long x :: l, .long x :: s, h) := by rw [ev_lf]; rfl
theorem x_lload6 {d : Nat} {v0 v1 v2 v3 v4 v5 : Value} {x : Int64} {l s : AL} {h : AH} {t : AT} : ev d (sq (lf (.lload 6) []) t) (v0 :: v1 :: v2 :: v3 :: v4 :: v5 :: .long x :: l, s, h) = ev d t (v0 :: v1 :: v2 :: v3 :: v4 :: v5 :: .long x :: l, .long x :: s, h) := by rw [ev_sq, y_lload6] <;> rfl
theorem y_lload7 {d : Nat} {v0 v1 v2 v3 v4 v5 v6 : Value} {x : Int64} {l s : AL} {h : AH} : ev d (lf (.lload 7) []) (v0 :: v1 :: v2 :: v3 :: v4 :: v5 :: v6 :: .long x :: l, s, h) = some (.inl 0, v0 :: v1 :: v2 :: v3 :: v4 :: v5 :: v6 :: .long x :: l, .long x :: s, h) := by rw [ev_lf]; rfl
theorem x_lload7 {d : Nat} {v0 v1 v2 v3 v4 v5 v6 : Value} {x : Int64} {l s : AL} {h : AH} {t : AT} : ev d (sq (lf (.lload 7) []) t) (v0 :: v1 :: v2 :: v3 :: v4 :: v5 :: v6 :: .long x :: l, s, h) = ev d t (v0 :: v1 :: v2 :: v3 :: v4 :: v5 :: v6 :: .long x :: l, .long x :: s, h) := by rw [ev_sq, y_lload7] <;> rfl
theorem y_lload9 {d : Nat} {v0 v1 v2 v3 v4 v5 v6 v7 v8 : Value} {x : Int64} {l s : AL} {h : AH} : ev d (lf (.lload 9) []) (v0 :: v1 :: v2 :: v3 :: v4 :: v5 :: v6 :: v7 :: v8 :: .long x :: l, s, h) = some (.inl 0, v0 :: v1 :: v2 :: v3 :: v4 :: v5 :: v6 :: v7 :: v8 :: .long x :: l, .long x :: s, h) := by rw [ev_lf]; rfl
theorem x_lload9 {d : Nat} {v0 v1 v2 v3 v4 v5 v6 v7 v8 : Value} {x : Int64} {l s : AL} {h : AH} {t : AT} : ev d (sq (lf (.lload 9) []) t) (v0 :: v1 :: v2 :: v3 :: v4 :: v5 :: v6 :: v7 :: v8 :: .long x :: l, s, h) = ev d t (v0 :: v1 :: v2 :: v3 :: v4 :: v5 :: v6 :: v7 :: v8 :: .long x :: l, .long x :: s, h) := by rw [ev_sq, y_lload9] <;> rfl
theorem y_lload_n0 {d : Nat} {x : Int64} {l s : AL} {h : AH} : ev d (lf (.lload_n 0) []) (.long x :: l, s, h) = some (.inl 0, .long x :: l, .long x :: s, h) := by rw [ev_lf]; rfl
theorem x_lload_n0 {d : Nat} {x : Int64} {l s : AL} {h : AH} {t : AT} : ev d (sq (lf (.lload_n 0) []) t) (.long x :: l, s, h) = ev d t (.long x :: l, .long x :: s, h) := by rw [ev_sq, y_lload_n0] <;> rfl
theorem y_lload_n1 {d : Nat} {v0 : Value} {x : Int64} {l s : AL} {h : AH} : ev d (lf (.lload_n 1) []) (v0 :: .long x :: l, s, h) = some (.inl 0, v0 :: .long x :: l, .long x :: s, h) := by rw [ev_lf]; rfl
theorem x_lload_n1 {d : Nat} {v0 : Value} {x : Int64} {l s : AL} {h : AH} {t : AT} : ev d (sq (lf (.lload_n 1) []) t) (v0 :: .long x :: l, s, h) = ev d t (v0 :: .long x :: l, .long x :: s, h) := by rw [ev_sq, y_lload_n1] <;> rfl
theorem y_lload_n2 {d : Nat} {v0 v1 : Value} {x : Int64} {l s : AL} {h : AH} : ev d (lf (.lload_n 2) []) (v0 :: v1 :: .long x :: l, s, h) = some (.inl 0, v0 :: v1 :: .long x :: l, .long x :: s, h) := by rw [ev_lf]; rfl
theorem x_lload_n2 {d : Nat} {v0 v1 : Value} {x : Int64} {l s : AL} {h : AH} {t : AT} : ev d (sq (lf (.lload_n 2) []) t) (v0 :: v1 :: .long x :: l, s, h) = ev d t (v0 :: v1 :: .long x :: l, .long x :: s, h) := by rw [ev_sq, y_lload_n2] <;> rfl
theorem y_lload_n3 {d : Nat} {v0 v1 v2 : Value} {x : Int64} {l s : AL} {h : AH} : ev d (lf (.lload_n 3) []) (v0 :: v1 :: v2 :: .long x :: l, s, h) = some (.inl 0, v0 :: v1 :: v2 :: .long x :: l, .long x :: s, h) := by rw [ev_lf]; rfl
theorem x_lload_n3 {d : Nat} {v0 v1 v2 : Value} {x : Int64} {l s : AL} {h : AH} {t : AT} : ev d (sq (lf (.lload_n 3) []) t) (v0 :: v1 :: v2 :: .long x :: l, s, h) = ev d t (v0 :: v1 :: v2 :: .long x :: l, .long x :: s, h) := by rw [ev_sq, y_lload_n3] <;> rfl
theorem y_lmul {d : Nat} {x y : Int64} {l s : AL} {h : AH} : ev d (lf (.lmul) []) (l, .long y :: .long x :: s, h) = some (.inl 0, l, .long (x * y) :: s, h) := by rw [ev_lf]; rfl
theorem x_lmul {d : Nat} {x y : Int64} {l s : AL} {h : AH} {t : AT} : ev d (sq (lf (.lmul) []) t) (l, .long y :: .long x :: s, h) = ev d t (l, .long (x * y) :: s, h) := by rw [ev_sq, y_lmul] <;> rfl
theorem y_lrem {d : Nat} {x y : Int64} {l s : AL} {h : AH} (h0 : ¬ y = 0) : ev d (lf (.lrem) []) (l, .long y :: .long x :: s, h) = some (.inl 0, l, .long (x - x / y * y) :: s, h) := ev_lf.trans (leaf_s (q := (l, .long (x - x / y * y) :: s)) (if_neg (t := none) h0))
theorem x_lrem {d : Nat} {x y : Int64} {l s : AL} {h : AH} {t : AT} (h0 : ¬ y = 0) : ev d (sq (lf (.lrem) []) t) (l, .long y :: .long x :: s, h) = ev d t (l, .long (x - x / y * y) :: s, h) := by rw [ev_sq, y_lrem h0] <;> rfl
theorem y_lret {d : Nat} {x : Int64} {l : AL} {h : AH} : ev d (lf (.lreturn) []) (l, [.long x], h) = some (.inr (.inl (some (.long x))), l, [], h) := by rw [ev_lf]; rfl
theorem y_lstore4 {d : Nat} {v0 v1 v2 v3 v4 v5 : Value} {x : Int64} {l s : AL} {h : AH} : ev d (lf (.lstore 4) []) (v0 :: v1 :: v2 :: v3 :: v4 :: v5 :: l, .long x :: s, h) = some (.inl 0, lset2 (v0 :: v1 :: v2 :: v3 :: v4 :: v5 :: l) 4 (.long x), s, h) := ev_lf.trans (leaf_s (q := (lset2 (v0 :: v1 :: v2 :: v3 :: v4 :: v5 :: l) 4 (.long x), s)) (if_pos (e := none) (show 4 + 1 < (v0 :: v1 :: v2 :: v3 :: v4 :: v5 :: l).length by simp only [List.length_cons]; omega)))
theorem x_lstore4 {d : Nat} {v0 v1 v2 v3 v4 v5 : Value} {x : Int64} {l s : AL} {h : AH} {t : AT} : ev d (sq (lf (.lstore 4) []) t) (v0 :: v1 :: v2 :: v3 :: v4 :: v5 :: l, .long x :: s, h) = ev d t (lset2 (v0 :: v1 :: v2 :: v3 :: v4 :: v5 :: l) 4 (.long x), s, h) := by rw [ev_sq, y_lstore4] <;> rfl
theorem y_lstore5 {d : Nat} {v0 v1 v2 v3 v4 v5 v6 : Value} {x : Int64} {l s : AL} {h : AH} : ev d (lf (.lstore 5) []) (v0 :: v1 :: v2 :: v3 :: v4 :: v5 :: v6 :: l, .long x :: s, h) = some (.inl 0, lset2 (v0 :: v1 :: v2 :: v3 :: v4 :: v5 :: v6 :: l) 5 (.long x), s, h) := ev_lf.trans (leaf_s (q := (lset2 (v0 :: v1 :: v2 :: v3 :: v4 :: v5 :: v6 :: l) 5 (.long x), s)) (if_pos (e := none) (show 5 + 1 < (v0 :: v1 :: v2 :: v3 :: v4 :: v5 :: v6 :: l).length by simp only [List.length_cons]; omega)))
theorem x_lstore5 {d : Nat} {v0 v1 v2 v3 v4 v5 v6 : Value} {x : Int64} {l s : AL} {h : AH} {t : AT} : ev d (sq (lf (.lstore 5) []) t) (v0 :: v1 :: v2 :: v3 :: v4 :: v5 :: v6 :: l, .long x :: s, h) = ev d t (lset2 (v0 :: v1 :: v2 :: v3 :: v4 :: v5 :: v6 :: l) 5 (.long x), s, h) := by rw [ev_sq, y_lstore5] <;> rfl
theorem y_lstore6 {d : Nat} {v0 v1 v2 v3 v4 v5 v6 v7 : Value} {x : Int64} {l s : AL} {h : AH} : ev d (lf (.lstore 6) []) (v0 :: v1 :: v2 :: v3 :: v4 :: v5 :: v6 :: v7 :: l, .long x :: s, h) = some (.inl 0, lset2 (v0 :: v1 :: v2 :: v3 :: v4 :: v5 :: v6 :: v7 :: l) 6 (.long x), s, h) := ev_lf.trans (leaf_s (q := (lset2 (v0 :: v1 :: v2 :: v3 :: v4 :: v5 :: v6 :: v7 :: l) 6 (.long x), s)) (if_pos (e := none) (show 6 + 1 < (v0 :: v1 :: v2 :: v3 :: v4 :: v5 :: v6 :: v7 :: l).length by simp only [List.length_cons]; omega)))
theorem x_lstore6 {d : Nat} {v0 v1 v2 v3 v4 v5 v6 v7 : Value} {x : Int64} {l s : AL} {h : AH} {t : AT} : ev d (sq (lf (.lstore 6) []) t) (v0 :: v1 :: v2 :: v3 :: v4 :: v5 :: v6 :: v7 :: l, .long x :: s, h) = ev d t (lset2 (v0 :: v1 :: v2 :: v3 :: v4 :: v5 :: v6 :: v7 :: l) 6 (.long x), s, h) := by rw [ev_sq, y_lstore6] <;> rfl
theorem y_lstore7 {d : Nat} {v0 v1 v2 v3 v4 v5 v6 v7 v8 : Value} {x : Int64} {l s : AL} {h : AH} : ev d (lf (.lstore 7) []) (v0 :: v1 :: v2 :: v3 :: v4 :: v5 :: v6 :: v7 :: v8 :: l, .long x :: s, h) = some (.inl 0, lset2 (v0 :: v1 :: v2 :: v3 :: v4 :: v5 :: v6 :: v7 :: v8 :: l) 7 (.long x), s, h) := ev_lf.trans (leaf_s (q := (lset2 (v0 :: v1 :: v2 :: v3 :: v4 :: v5 :: v6 :: v7 :: v8 :: l) 7 (.long x), s)) (if_pos (e := none) (show 7 + 1 < (v0 :: v1 :: v2 :: v3 :: v4 :: v5 :: v6 :: v7 :: v8 :: l).length by simp only [List.length_cons]; omega)))
theorem x_lstore7 {d : Nat} {v0 v1 v2 v3 v4 v5 v6 v7 v8 : Value} {x : Int64} {l s : AL} {h : AH} {t : AT} : ev d (sq (lf (.lstore 7) []) t) (v0 :: v1 :: v2 :: v3 :: v4 :: v5 :: v6 :: v7 :: v8 :: l, .long x :: s, h) = ev d t (lset2 (v0 :: v1 :: v2 :: v3 :: v4 :: v5 :: v6 :: v7 :: v8 :: l) 7 (.long x), s, h) := by rw [ev_sq, y_lstore7] <;> rfl
theorem y_lstore9 {d : Nat} {v0 v1 v2 v3 v4 v5 v6 v7 v8 v9 v10 : Value} {x : Int64} {l s : AL} {h : AH} : ev d (lf (.lstore 9) []) (v0 :: v1 :: v2 :: v3 :: v4 :: v5 :: v6 :: v7 :: v8 :: v9 :: v10 :: l, .long x :: s, h) = some (.inl 0, lset2 (v0 :: v1 :: v2 :: v3 :: v4 :: v5 :: v6 :: v7 :: v8 :: v9 :: v10 :: l) 9 (.long x), s, h) := ev_lf.trans (leaf_s (q := (lset2 (v0 :: v1 :: v2 :: v3 :: v4 :: v5 :: v6 :: v7 :: v8 :: v9 :: v10 :: l) 9 (.long x), s)) (if_pos (e := none) (show 9 + 1 < (v0 :: v1 :: v2 :: v3 :: v4 :: v5 :: v6 :: v7 :: v8 :: v9 :: v10 :: l).length by simp only [List.length_cons]; omega)))
theorem x_lstore9 {d : Nat} {v0 v1 v2 v3 v4 v5 v6 v7 v8 v9 v10 : Value} {x : Int64} {l s : AL} {h : AH} {t : AT} : ev d (sq (lf (.lstore 9) []) t) (v0 :: v1 :: v2 :: v3 :: v4 :: v5 :: v6 :: v7 :: v8 :: v9 :: v10 :: l, .long x :: s, h) = ev d t (lset2 (v0 :: v1 :: v2 :: v3 :: v4 :: v5 :: v6 :: v7 :: v8 :: v9 :: v10 :: l) 9 (.long x), s, h) := by rw [ev_sq, y_lstore9] <;> rfl
theorem y_lstore_n1 {d : Nat} {v0 v1 v2 : Value} {x : Int64} {l s : AL} {h : AH} : ev d (lf (.lstore_n 1) []) (v0 :: v1 :: v2 :: l, .long x :: s, h) = some (.inl 0, lset2 (v0 :: v1 :: v2 :: l) 1 (.long x), s, h) := ev_lf.trans (leaf_s (q := (lset2 (v0 :: v1 :: v2 :: l) 1 (.long x), s)) (if_pos (e := none) (show 1 + 1 < (v0 :: v1 :: v2 :: l).length by simp only [List.length_cons]; omega)))
theorem x_lstore_n1 {d : Nat} {v0 v1 v2 : Value} {x : Int64} {l s : AL} {h : AH} {t : AT} : ev d (sq (lf (.lstore_n 1) []) t) (v0 :: v1 :: v2 :: l, .long x :: s, h) = ev d t (lset2 (v0 :: v1 :: v2 :: l) 1 (.long x), s, h) := by rw [ev_sq, y_lstore_n1] <;> rfl
theorem y_lstore_n2 {d : Nat} {v0 v1 v2 v3 : Value} {x : Int64} {l s : AL} {h : AH} : ev d (lf (.lstore_n 2) []) (v0 :: v1 :: v2 :: v3 :: l, .long x :: s, h) = some (.inl 0, lset2 (v0 :: v1 :: v2 :: v3 :: l) 2 (.long x), s, h) := ev_lf.trans (leaf_s (q := (lset2 (v0 :: v1 :: v2 :: v3 :: l) 2 (.long x), s)) (if_pos (e := none) (show 2 + 1 < (v0 :: v1 :: v2 :: v3 :: l).length by simp only [List.length_cons]; omega)))
theorem x_lstore_n2 {d : Nat} {v0 v1 v2 v3 : Value} {x : Int64} {l s : AL} {h : AH} {t : AT} : ev d (sq (lf (.lstore_n 2) []) t) (v0 :: v1 :: v2 :: v3 :: l, .long x :: s, h) = ev d t (lset2 (v0 :: v1 :: v2 :: v3 :: l) 2 (.long x), s, h) := by rw [ev_sq, y_lstore_n2] <;> rfl
theorem y_lstore_n3 {d : Nat} {v0 v1 v2 v3 v4 : Value} {x : Int64} {l s : AL} {h : AH} : ev d (lf (.lstore_n 3) []) (v0 :: v1 :: v2 :: v3 :: v4 :: l, .long x :: s, h) = some (.inl 0, lset2 (v0 :: v1 :: v2 :: v3 :: v4 :: l) 3 (.long x), s, h) := ev_lf.trans (leaf_s (q := (lset2 (v0 :: v1 :: v2 :: v3 :: v4 :: l) 3 (.long x), s)) (if_pos (e := none) (show 3 + 1 < (v0 :: v1 :: v2 :: v3 :: v4 :: l).length by simp only [List.length_cons]; omega)))
theorem x_lstore_n3 {d : Nat} {v0 v1 v2 v3 v4 : Value} {x : Int64} {l s : AL} {h : AH} {t : AT} : ev d (sq (lf (.lstore_n 3) []) t) (v0 :: v1 :: v2 :: v3 :: v4 :: l, .long x :: s, h) = ev d t (lset2 (v0 :: v1 :: v2 :: v3 :: v4 :: l) 3 (.long x), s, h) := by rw [ev_sq, y_lstore_n3] <;> rfl
theorem y_lsub {d : Nat} {x y : Int64} {l s : AL} {h : AH} : ev d (lf (.lsub) []) (l, .long y :: .long x :: s, h) = some (.inl 0, l, .long (x - y) :: s, h) := by rw [ev_lf]; rfl
theorem x_lsub {d : Nat} {x y : Int64} {l s : AL} {h : AH} {t : AT} : ev d (sq (lf (.lsub) []) t) (l, .long y :: .long x :: s, h) = ev d t (l, .long (x - y) :: s, h) := by rw [ev_sq, y_lsub] <;> rfl
theorem y_mnew {d : Nat} {M : MM} {n k i j : Nat} {l s : AL} (hn : n ≤ 100000) (hk : k ≤ 100000) (hx : nx M + (1 + n) ≤ 1000000) : ev d (lf (.multianewarray i j) []) (l, .int (nI k) :: .int (nI n) :: s, toH M) = some (.inl 0, l, .ref (nx M) :: s, toH (xR M n k)) := nw_M hn hk hx
theorem x_mnew {d : Nat} {M : MM} {n k i j : Nat} {l s : AL} {t : AT} (hn : n ≤ 100000) (hk : k ≤ 100000) (hx : nx M + (1 + n) ≤ 1000000) : ev d (sq (lf (.multianewarray i j) []) t) (l, .int (nI k) :: .int (nI n) :: s, toH M) = ev d t (l, .ref (nx M) :: s, toH (xR M n k)) := by rw [ev_sq, y_mnew hn hk hx] <;> rfl
theorem y_new_9 {d : Nat} {M : MM} {i : Nat} {l s : AL} (hx : nx M < 1000000) : ev d (lf (.new i) [9]) (l, s, toH M) = some (.inl 0, l, .ref (nx M) :: s, toH (xO M 9)) := nw_O (by decide) hx
theorem x_new_9 {d : Nat} {M : MM} {i : Nat} {l s : AL} {t : AT} (hx : nx M < 1000000) : ev d (sq (lf (.new i) [9]) t) (l, s, toH M) = ev d t (l, .ref (nx M) :: s, toH (xO M 9)) := by rw [ev_sq, y_new_9 hx] <;> rfl
theorem y_new_5 {d : Nat} {M : MM} {i : Nat} {l s : AL} (hx : nx M < 1000000) : ev d (lf (.new i) [5]) (l, s, toH M) = some (.inl 0, l, .ref (nx M) :: s, toH (xO M 5)) := nw_O (by decide) hx
theorem x_new_5 {d : Nat} {M : MM} {i : Nat} {l s : AL} {t : AT} (hx : nx M < 1000000) : ev d (sq (lf (.new i) [5]) t) (l, s, toH M) = ev d t (l, .ref (nx M) :: s, toH (xO M 5)) := by rw [ev_sq, y_new_5 hx] <;> rfl
theorem y_new_1 {d : Nat} {M : MM} {i : Nat} {l s : AL} (hx : nx M < 1000000) : ev d (lf (.new i) [1]) (l, s, toH M) = some (.inl 0, l, .ref (nx M) :: s, toH (xO M 1)) := nw_O (by decide) hx
theorem x_new_1 {d : Nat} {M : MM} {i : Nat} {l s : AL} {t : AT} (hx : nx M < 1000000) : ev d (sq (lf (.new i) [1]) t) (l, s, toH M) = ev d t (l, .ref (nx M) :: s, toH (xO M 1)) := by rw [ev_sq, y_new_1 hx] <;> rfl
theorem y_new_4 {d : Nat} {M : MM} {i : Nat} {l s : AL} (hx : nx M < 1000000) : ev d (lf (.new i) [4]) (l, s, toH M) = some (.inl 0, l, .ref (nx M) :: s, toH (xO M 4)) := nw_O (by decide) hx
theorem x_new_4 {d : Nat} {M : MM} {i : Nat} {l s : AL} {t : AT} (hx : nx M < 1000000) : ev d (sq (lf (.new i) [4]) t) (l, s, toH M) = ev d t (l, .ref (nx M) :: s, toH (xO M 4)) := by rw [ev_sq, y_new_4 hx] <;> rfl
theorem y_new_3 {d : Nat} {M : MM} {i : Nat} {l s : AL} (hx : nx M < 1000000) : ev d (lf (.new i) [3]) (l, s, toH M) = some (.inl 0, l, .ref (nx M) :: s, toH (xO M 3)) := nw_O (by decide) hx
theorem x_new_3 {d : Nat} {M : MM} {i : Nat} {l s : AL} {t : AT} (hx : nx M < 1000000) : ev d (sq (lf (.new i) [3]) t) (l, s, toH M) = ev d t (l, .ref (nx M) :: s, toH (xO M 3)) := by rw [ev_sq, y_new_3 hx] <;> rfl
theorem y_new_0 {d : Nat} {M : MM} {i : Nat} {l s : AL} (hx : nx M < 1000000) : ev d (lf (.new i) [0]) (l, s, toH M) = some (.inl 0, l, .ref (nx M) :: s, toH (xO M 0)) := nw_O (by decide) hx
theorem x_new_0 {d : Nat} {M : MM} {i : Nat} {l s : AL} {t : AT} (hx : nx M < 1000000) : ev d (sq (lf (.new i) [0]) t) (l, s, toH M) = ev d t (l, .ref (nx M) :: s, toH (xO M 0)) := by rw [ev_sq, y_new_0 hx] <;> rfl
theorem y_new_6 {d : Nat} {M : MM} {i : Nat} {l s : AL} (hx : nx M < 1000000) : ev d (lf (.new i) [6]) (l, s, toH M) = some (.inl 0, l, .ref (nx M) :: s, toH (xO M 6)) := nw_O (by decide) hx
theorem x_new_6 {d : Nat} {M : MM} {i : Nat} {l s : AL} {t : AT} (hx : nx M < 1000000) : ev d (sq (lf (.new i) [6]) t) (l, s, toH M) = ev d t (l, .ref (nx M) :: s, toH (xO M 6)) := by rw [ev_sq, y_new_6 hx] <;> rfl
theorem y_new_2 {d : Nat} {M : MM} {i : Nat} {l s : AL} (hx : nx M < 1000000) : ev d (lf (.new i) [2]) (l, s, toH M) = some (.inl 0, l, .ref (nx M) :: s, toH (xO M 2)) := nw_O (by decide) hx
theorem x_new_2 {d : Nat} {M : MM} {i : Nat} {l s : AL} {t : AT} (hx : nx M < 1000000) : ev d (sq (lf (.new i) [2]) t) (l, s, toH M) = ev d t (l, .ref (nx M) :: s, toH (xO M 2)) := by rw [ev_sq, y_new_2 hx] <;> rfl
theorem y_new_7 {d : Nat} {M : MM} {i : Nat} {l s : AL} (hx : nx M < 1000000) : ev d (lf (.new i) [7]) (l, s, toH M) = some (.inl 0, l, .ref (nx M) :: s, toH (xO M 7)) := nw_O (by decide) hx
theorem x_new_7 {d : Nat} {M : MM} {i : Nat} {l s : AL} {t : AT} (hx : nx M < 1000000) : ev d (sq (lf (.new i) [7]) t) (l, s, toH M) = ev d t (l, .ref (nx M) :: s, toH (xO M 7)) := by rw [ev_sq, y_new_7 hx] <;> rfl
theorem y_new_8 {d : Nat} {M : MM} {i : Nat} {l s : AL} (hx : nx M < 1000000) : ev d (lf (.new i) [8]) (l, s, toH M) = some (.inl 0, l, .ref (nx M) :: s, toH (xO M 8)) := nw_O (by decide) hx
theorem x_new_8 {d : Nat} {M : MM} {i : Nat} {l s : AL} {t : AT} (hx : nx M < 1000000) : ev d (sq (lf (.new i) [8]) t) (l, s, toH M) = ev d t (l, .ref (nx M) :: s, toH (xO M 8)) := by rw [ev_sq, y_new_8 hx] <;> rfl
theorem y_newarray_22 {d : Nat} {M : MM} {n : Nat} {l s : AL} (hn : n ≤ 100000) (hx : nx M < 1000000) : ev d (lf (.newarray .byte) []) (l, .int (nI n) :: s, toH M) = some (.inl 0, l, .ref (nx M) :: s, toH (xA M 22 n)) := nw_A (at_ := .byte) rfl (Or.inr (Or.inr (Or.inl ⟨rfl, rfl⟩))) hn hx
theorem x_newarray_22 {d : Nat} {M : MM} {n : Nat} {l s : AL} {t : AT} (hn : n ≤ 100000) (hx : nx M < 1000000) : ev d (sq (lf (.newarray .byte) []) t) (l, .int (nI n) :: s, toH M) = ev d t (l, .ref (nx M) :: s, toH (xA M 22 n)) := by rw [ev_sq, y_newarray_22 hn hx] <;> rfl
theorem y_newarray_20 {d : Nat} {M : MM} {n : Nat} {l s : AL} (hn : n ≤ 100000) (hx : nx M < 1000000) : ev d (lf (.newarray .int) []) (l, .int (nI n) :: s, toH M) = some (.inl 0, l, .ref (nx M) :: s, toH (xA M 20 n)) := nw_A (at_ := .int) rfl (Or.inl ⟨rfl, rfl⟩) hn hx
theorem x_newarray_20 {d : Nat} {M : MM} {n : Nat} {l s : AL} {t : AT} (hn : n ≤ 100000) (hx : nx M < 1000000) : ev d (sq (lf (.newarray .int) []) t) (l, .int (nI n) :: s, toH M) = ev d t (l, .ref (nx M) :: s, toH (xA M 20 n)) := by rw [ev_sq, y_newarray_20 hn hx] <;> rfl
theorem y_newarray_21 {d : Nat} {M : MM} {n : Nat} {l s : AL} (hn : n ≤ 100000) (hx : nx M < 1000000) : ev d (lf (.newarray .long) []) (l, .int (nI n) :: s, toH M) = some (.inl 0, l, .ref (nx M) :: s, toH (xA M 21 n)) := nw_A (at_ := .long) rfl (Or.inr (Or.inl ⟨rfl, rfl⟩)) hn hx
theorem x_newarray_21 {d : Nat} {M : MM} {n : Nat} {l s : AL} {t : AT} (hn : n ≤ 100000) (hx : nx M < 1000000) : ev d (sq (lf (.newarray .long) []) t) (l, .int (nI n) :: s, toH M) = ev d t (l, .ref (nx M) :: s, toH (xA M 21 n)) := by rw [ev_sq, y_newarray_21 hn hx] <;> rfl
theorem y_pop_i {d : Nat} {x : Int32} {l s : AL} {h : AH} : ev d (lf (.pop) []) (l, .int x :: s, h) = some (.inl 0, l, s, h) := by rw [ev_lf]; rfl
theorem x_pop_i {d : Nat} {x : Int32} {l s : AL} {h : AH} {t : AT} : ev d (sq (lf (.pop) []) t) (l, .int x :: s, h) = ev d t (l, s, h) := by rw [ev_sq, y_pop_i] <;> rfl
theorem y_pf_8_0 {d : Nat} {M : MM} {a i x : Nat} {l s : AL} (hc : cl M a = 8) : ev d (lf (.putfield i) [8, 0]) (l, .ref x :: .ref a :: s, toH M) = some (.inl 0, l, s, toH (setR M a 0 (some x))) := pf_R hc (by decide) (by decide) (by decide) (by decide)
theorem x_pf_8_0 {d : Nat} {M : MM} {a i x : Nat} {l s : AL} {t : AT} (hc : cl M a = 8) : ev d (sq (lf (.putfield i) [8, 0]) t) (l, .ref x :: .ref a :: s, toH M) = ev d t (l, s, toH (setR M a 0 (some x))) := by rw [ev_sq, y_pf_8_0 hc] <;> rfl
theorem y_pf_9_5 {d : Nat} {M : MM} {a i : Nat} {x : Int32} {l s : AL} (hc : cl M a = 9) : ev d (lf (.putfield i) [9, 5]) (l, .int x :: .ref a :: s, toH M) = some (.inl 0, l, s, toH (setI M a 5 x)) := pf_I hc (by decide) (by decide) (by decide) (by decide)
theorem x_pf_9_5 {d : Nat} {M : MM} {a i : Nat} {x : Int32} {l s : AL} {t : AT} (hc : cl M a = 9) : ev d (sq (lf (.putfield i) [9, 5]) t) (l, .int x :: .ref a :: s, toH M) = ev d t (l, s, toH (setI M a 5 x)) := by rw [ev_sq, y_pf_9_5 hc] <;> rfl
theorem y_pf_9_6 {d : Nat} {M : MM} {a i : Nat} {x : Int32} {l s : AL} (hc : cl M a = 9) : ev d (lf (.putfield i) [9, 6]) (l, .int x :: .ref a :: s, toH M) = some (.inl 0, l, s, toH (setI M a 6 x)) := pf_I hc (by decide) (by decide) (by decide) (by decide)
theorem x_pf_9_6 {d : Nat} {M : MM} {a i : Nat} {x : Int32} {l s : AL} {t : AT} (hc : cl M a = 9) : ev d (sq (lf (.putfield i) [9, 6]) t) (l, .int x :: .ref a :: s, toH M) = ev d t (l, s, toH (setI M a 6 x)) := by rw [ev_sq, y_pf_9_6 hc] <;> rfl
theorem y_pf_6_0 {d : Nat} {M : MM} {a i x : Nat} {l s : AL} (hc : cl M a = 6) : ev d (lf (.putfield i) [6, 0]) (l, .ref x :: .ref a :: s, toH M) = some (.inl 0, l, s, toH (setR M a 0 (some x))) := pf_R hc (by decide) (by decide) (by decide) (by decide)
theorem x_pf_6_0 {d : Nat} {M : MM} {a i x : Nat} {l s : AL} {t : AT} (hc : cl M a = 6) : ev d (sq (lf (.putfield i) [6, 0]) t) (l, .ref x :: .ref a :: s, toH M) = ev d t (l, s, toH (setR M a 0 (some x))) := by rw [ev_sq, y_pf_6_0 hc] <;> rfl
theorem y_pf_8_14 {d : Nat} {M : MM} {a i : Nat} {x : Int32} {l s : AL} (hc : cl M a = 8) : ev d (lf (.putfield i) [8, 14]) (l, .int x :: .ref a :: s, toH M) = some (.inl 0, l, s, toH (setI M a 14 x)) := pf_I hc (by decide) (by decide) (by decide) (by decide)
theorem x_pf_8_14 {d : Nat} {M : MM} {a i : Nat} {x : Int32} {l s : AL} {t : AT} (hc : cl M a = 8) : ev d (sq (lf (.putfield i) [8, 14]) t) (l, .int x :: .ref a :: s, toH M) = ev d t (l, s, toH (setI M a 14 x)) := by rw [ev_sq, y_pf_8_14 hc] <;> rfl
theorem y_pf_3_10 {d : Nat} {M : MM} {a i : Nat} {x : Int32} {l s : AL} (hc : cl M a = 3) : ev d (lf (.putfield i) [3, 10]) (l, .int x :: .ref a :: s, toH M) = some (.inl 0, l, s, toH (setI M a 10 x)) := pf_I hc (by decide) (by decide) (by decide) (by decide)
theorem x_pf_3_10 {d : Nat} {M : MM} {a i : Nat} {x : Int32} {l s : AL} {t : AT} (hc : cl M a = 3) : ev d (sq (lf (.putfield i) [3, 10]) t) (l, .int x :: .ref a :: s, toH M) = ev d t (l, s, toH (setI M a 10 x)) := by rw [ev_sq, y_pf_3_10 hc] <;> rfl
theorem y_pf_9_9 {d : Nat} {M : MM} {a i x : Nat} {l s : AL} (hc : cl M a = 9) : ev d (lf (.putfield i) [9, 9]) (l, .ref x :: .ref a :: s, toH M) = some (.inl 0, l, s, toH (setR M a 9 (some x))) := pf_R hc (by decide) (by decide) (by decide) (by decide)
theorem x_pf_9_9 {d : Nat} {M : MM} {a i x : Nat} {l s : AL} {t : AT} (hc : cl M a = 9) : ev d (sq (lf (.putfield i) [9, 9]) t) (l, .ref x :: .ref a :: s, toH M) = ev d t (l, s, toH (setR M a 9 (some x))) := by rw [ev_sq, y_pf_9_9 hc] <;> rfl
theorem y_pf_3_11 {d : Nat} {M : MM} {a i x : Nat} {l s : AL} (hc : cl M a = 3) : ev d (lf (.putfield i) [3, 11]) (l, .ref x :: .ref a :: s, toH M) = some (.inl 0, l, s, toH (setR M a 11 (some x))) := pf_R hc (by decide) (by decide) (by decide) (by decide)
theorem x_pf_3_11 {d : Nat} {M : MM} {a i x : Nat} {l s : AL} {t : AT} (hc : cl M a = 3) : ev d (sq (lf (.putfield i) [3, 11]) t) (l, .ref x :: .ref a :: s, toH M) = ev d t (l, s, toH (setR M a 11 (some x))) := by rw [ev_sq, y_pf_3_11 hc] <;> rfl
theorem y_pf_0_1 {d : Nat} {M : MM} {a i x : Nat} {l s : AL} (hc : cl M a = 0) : ev d (lf (.putfield i) [0, 1]) (l, .ref x :: .ref a :: s, toH M) = some (.inl 0, l, s, toH (setR M a 1 (some x))) := pf_R hc (by decide) (by decide) (by decide) (by decide)
theorem x_pf_0_1 {d : Nat} {M : MM} {a i x : Nat} {l s : AL} {t : AT} (hc : cl M a = 0) : ev d (sq (lf (.putfield i) [0, 1]) t) (l, .ref x :: .ref a :: s, toH M) = ev d t (l, s, toH (setR M a 1 (some x))) := by rw [ev_sq, y_pf_0_1 hc] <;> rfl
theorem y_pf_1_1 {d : Nat} {M : MM} {a i : Nat} {x : Int32} {l s : AL} (hc : cl M a = 1) : ev d (lf (.putfield i) [1, 1]) (l, .int x :: .ref a :: s, toH M) = some (.inl 0, l, s, toH (setI M a 1 x)) := pf_I hc (by decide) (by decide) (by decide) (by decide)
theorem x_pf_1_1 {d : Nat} {M : MM} {a i : Nat} {x : Int32} {l s : AL} {t : AT} (hc : cl M a = 1) : ev d (sq (lf (.putfield i) [1, 1]) t) (l, .int x :: .ref a :: s, toH M) = ev d t (l, s, toH (setI M a 1 x)) := by rw [ev_sq, y_pf_1_1 hc] <;> rfl
theorem y_pf_2_1 {d : Nat} {M : MM} {a i x : Nat} {l s : AL} (hc : cl M a = 2) : ev d (lf (.putfield i) [2, 1]) (l, .ref x :: .ref a :: s, toH M) = some (.inl 0, l, s, toH (setR M a 1 (some x))) := pf_R hc (by decide) (by decide) (by decide) (by decide)
theorem x_pf_2_1 {d : Nat} {M : MM} {a i x : Nat} {l s : AL} {t : AT} (hc : cl M a = 2) : ev d (sq (lf (.putfield i) [2, 1]) t) (l, .ref x :: .ref a :: s, toH M) = ev d t (l, s, toH (setR M a 1 (some x))) := by rw [ev_sq, y_pf_2_1 hc] <;> rfl
theorem y_pf_3_1 {d : Nat} {M : MM} {a i x : Nat} {l s : AL} (hc : cl M a = 3) : ev d (lf (.putfield i) [3, 1]) (l, .ref x :: .ref a :: s, toH M) = some (.inl 0, l, s, toH (setR M a 1 (some x))) := pf_R hc (by decide) (by decide) (by decide) (by decide)
theorem x_pf_3_1 {d : Nat} {M : MM} {a i x : Nat} {l s : AL} {t : AT} (hc : cl M a = 3) : ev d (sq (lf (.putfield i) [3, 1]) t) (l, .ref x :: .ref a :: s, toH M) = ev d t (l, s, toH (setR M a 1 (some x))) := by rw [ev_sq, y_pf_3_1 hc] <;> rfl
theorem y_pf_4_1 {d : Nat} {M : MM} {a i x : Nat} {l s : AL} (hc : cl M a = 4) : ev d (lf (.putfield i) [4, 1]) (l, .ref x :: .ref a :: s, toH M) = some (.inl 0, l, s, toH (setR M a 1 (some x))) := pf_R hc (by decide) (by decide) (by decide) (by decide)
theorem x_pf_4_1 {d : Nat} {M : MM} {a i x : Nat} {l s : AL} {t : AT} (hc : cl M a = 4) : ev d (sq (lf (.putfield i) [4, 1]) t) (l, .ref x :: .ref a :: s, toH M) = ev d t (l, s, toH (setR M a 1 (some x))) := by rw [ev_sq, y_pf_4_1 hc] <;> rfl
theorem y_pf_5_1 {d : Nat} {M : MM} {a i x : Nat} {l s : AL} (hc : cl M a = 5) : ev d (lf (.putfield i) [5, 1]) (l, .ref x :: .ref a :: s, toH M) = some (.inl 0, l, s, toH (setR M a 1 (some x))) := pf_R hc (by decide) (by decide) (by decide) (by decide)
theorem x_pf_5_1 {d : Nat} {M : MM} {a i x : Nat} {l s : AL} {t : AT} (hc : cl M a = 5) : ev d (sq (lf (.putfield i) [5, 1]) t) (l, .ref x :: .ref a :: s, toH M) = ev d t (l, s, toH (setR M a 1 (some x))) := by rw [ev_sq, y_pf_5_1 hc] <;> rfl
theorem y_pf_6_1 {d : Nat} {M : MM} {a i x : Nat} {l s : AL} (hc : cl M a = 6) : ev d (lf (.putfield i) [6, 1]) (l, .ref x :: .ref a :: s, toH M) = some (.inl 0, l, s, toH (setR M a 1 (some x))) := pf_R hc (by decide) (by decide) (by decide) (by decide)
theorem x_pf_6_1 {d : Nat} {M : MM} {a i x : Nat} {l s : AL} {t : AT} (hc : cl M a = 6) : ev d (sq (lf (.putfield i) [6, 1]) t) (l, .ref x :: .ref a :: s, toH M) = ev d t (l, s, toH (setR M a 1 (some x))) := by rw [ev_sq, y_pf_6_1 hc] <;> rfl
theorem y_pf_7_6 {d : Nat} {M : MM} {a i : Nat} {x : Int32} {l s : AL} (hc : cl M a = 7) : ev d (lf (.putfield i) [7, 6]) (l, .int x :: .ref a :: s, toH M) = some (.inl 0, l, s, toH (setI M a 6 x)) := pf_I hc (by decide) (by decide) (by decide) (by decide)
theorem x_pf_7_6 {d : Nat} {M : MM} {a i : Nat} {x : Int32} {l s : AL} {t : AT} (hc : cl M a = 7) : ev d (sq (lf (.putfield i) [7, 6]) t) (l, .int x :: .ref a :: s, toH M) = ev d t (l, s, toH (setI M a 6 x)) := by rw [ev_sq, y_pf_7_6 hc] <;> rfl
theorem y_pf_9_7 {d : Nat} {M : MM} {a i : Nat} {x : Int32} {l s : AL} (hc : cl M a = 9) : ev d (lf (.putfield i) [9, 7]) (l, .int x :: .ref a :: s, toH M) = some (.inl 0, l, s, toH (setI M a 7 x)) := pf_I hc (by decide) (by decide) (by decide) (by decide)
theorem x_pf_9_7 {d : Nat} {M : MM} {a i : Nat} {x : Int32} {l s : AL} {t : AT} (hc : cl M a = 9) : ev d (sq (lf (.putfield i) [9, 7]) t) (l, .int x :: .ref a :: s, toH M) = ev d t (l, s, toH (setI M a 7 x)) := by rw [ev_sq, y_pf_9_7 hc] <;> rfl
theorem y_pf_9_8 {d : Nat} {M : MM} {a i : Nat} {x : Int32} {l s : AL} (hc : cl M a = 9) : ev d (lf (.putfield i) [9, 8]) (l, .int x :: .ref a :: s, toH M) = some (.inl 0, l, s, toH (setI M a 8 x)) := pf_I hc (by decide) (by decide) (by decide) (by decide)
theorem x_pf_9_8 {d : Nat} {M : MM} {a i : Nat} {x : Int32} {l s : AL} {t : AT} (hc : cl M a = 9) : ev d (sq (lf (.putfield i) [9, 8]) t) (l, .int x :: .ref a :: s, toH M) = ev d t (l, s, toH (setI M a 8 x)) := by rw [ev_sq, y_pf_9_8 hc] <;> rfl
theorem y_pf_9_10 {d : Nat} {M : MM} {a i x : Nat} {l s : AL} (hc : cl M a = 9) : ev d (lf (.putfield i) [9, 10]) (l, .ref x :: .ref a :: s, toH M) = some (.inl 0, l, s, toH (setR M a 10 (some x))) := pf_R hc (by decide) (by decide) (by decide) (by decide)
theorem x_pf_9_10 {d : Nat} {M : MM} {a i x : Nat} {l s : AL} {t : AT} (hc : cl M a = 9) : ev d (sq (lf (.putfield i) [9, 10]) t) (l, .ref x :: .ref a :: s, toH M) = ev d t (l, s, toH (setR M a 10 (some x))) := by rw [ev_sq, y_pf_9_10 hc] <;> rfl
theorem y_pf_0_2 {d : Nat} {M : MM} {a i x : Nat} {l s : AL} (hc : cl M a = 0) : ev d (lf (.putfield i) [0, 2]) (l, .ref x :: .ref a :: s, toH M) = some (.inl 0, l, s, toH (setR M a 2 (some x))) := pf_R hc (by decide) (by decide) (by decide) (by decide)
theorem x_pf_0_2 {d : Nat} {M : MM} {a i x : Nat} {l s : AL} {t : AT} (hc : cl M a = 0) : ev d (sq (lf (.putfield i) [0, 2]) t) (l, .ref x :: .ref a :: s, toH M) = ev d t (l, s, toH (setR M a 2 (some x))) := by rw [ev_sq, y_pf_0_2 hc] <;> rfl
theorem y_pf_1_2 {d : Nat} {M : MM} {a i : Nat} {x : Int32} {l s : AL} (hc : cl M a = 1) : ev d (lf (.putfield i) [1, 2]) (l, .int x :: .ref a :: s, toH M) = some (.inl 0, l, s, toH (setI M a 2 x)) := pf_I hc (by decide) (by decide) (by decide) (by decide)
theorem x_pf_1_2 {d : Nat} {M : MM} {a i : Nat} {x : Int32} {l s : AL} {t : AT} (hc : cl M a = 1) : ev d (sq (lf (.putfield i) [1, 2]) t) (l, .int x :: .ref a :: s, toH M) = ev d t (l, s, toH (setI M a 2 x)) := by rw [ev_sq, y_pf_1_2 hc] <;> rfl
theorem y_pf_2_2 {d : Nat} {M : MM} {a i : Nat} {x : Int32} {l s : AL} (hc : cl M a = 2) : ev d (lf (.putfield i) [2, 2]) (l, .int x :: .ref a :: s, toH M) = some (.inl 0, l, s, toH (setI M a 2 x)) := pf_I hc (by decide) (by decide) (by decide) (by decide)
theorem x_pf_2_2 {d : Nat} {M : MM} {a i : Nat} {x : Int32} {l s : AL} {t : AT} (hc : cl M a = 2) : ev d (sq (lf (.putfield i) [2, 2]) t) (l, .int x :: .ref a :: s, toH M) = ev d t (l, s, toH (setI M a 2 x)) := by rw [ev_sq, y_pf_2_2 hc] <;> rfl
theorem y_pf_3_2 {d : Nat} {M : MM} {a i x : Nat} {l s : AL} (hc : cl M a = 3) : ev d (lf (.putfield i) [3, 2]) (l, .ref x :: .ref a :: s, toH M) = some (.inl 0, l, s, toH (setR M a 2 (some x))) := pf_R hc (by decide) (by decide) (by decide) (by decide)
theorem x_pf_3_2 {d : Nat} {M : MM} {a i x : Nat} {l s : AL} {t : AT} (hc : cl M a = 3) : ev d (sq (lf (.putfield i) [3, 2]) t) (l, .ref x :: .ref a :: s, toH M) = ev d t (l, s, toH (setR M a 2 (some x))) := by rw [ev_sq, y_pf_3_2 hc] <;> rfl
theorem y_pf_4_2 {d : Nat} {M : MM} {a i x : Nat} {l s : AL} (hc : cl M a = 4) : ev d (lf (.putfield i) [4, 2]) (l, .ref x :: .ref a :: s, toH M) = some (.inl 0, l, s, toH (setR M a 2 (some x))) := pf_R hc (by decide) (by decide) (by decide) (by decide)
theorem x_pf_4_2 {d : Nat} {M : MM} {a i x : Nat} {l s : AL} {t : AT} (hc : cl M a = 4) : ev d (sq (lf (.putfield i) [4, 2]) t) (l, .ref x :: .ref a :: s, toH M) = ev d t (l, s, toH (setR M a 2 (some x))) := by rw [ev_sq, y_pf_4_2 hc] <;> rfl
theorem y_pf_5_2 {d : Nat} {M : MM} {a i x : Nat} {l s : AL} (hc : cl M a = 5) : ev d (lf (.putfield i) [5, 2]) (l, .ref x :: .ref a :: s, toH M) = some (.inl 0, l, s, toH (setR M a 2 (some x))) := pf_R hc (by decide) (by decide) (by decide) (by decide)
theorem x_pf_5_2 {d : Nat} {M : MM} {a i x : Nat} {l s : AL} {t : AT} (hc : cl M a = 5) : ev d (sq (lf (.putfield i) [5, 2]) t) (l, .ref x :: .ref a :: s, toH M) = ev d t (l, s, toH (setR M a 2 (some x))) := by rw [ev_sq, y_pf_5_2 hc] <;> rfl
theorem y_pf_6_2 {d : Nat} {M : MM} {a i x : Nat} {l s : AL} (hc : cl M a = 6) : ev d (lf (.putfield i) [6, 2]) (l, .ref x :: .ref a :: s, toH M) = some (.inl 0, l, s, toH (setR M a 2 (some x))) := pf_R hc (by decide) (by decide) (by decide) (by decide)
theorem x_pf_6_2 {d : Nat} {M : MM} {a i x : Nat} {l s : AL} {t : AT} (hc : cl M a = 6) : ev d (sq (lf (.putfield i) [6, 2]) t) (l, .ref x :: .ref a :: s, toH M) = ev d t (l, s, toH (setR M a 2 (some x))) := by rw [ev_sq, y_pf_6_2 hc] <;> rfl
theorem y_pf_9_17 {d : Nat} {M : MM} {a i : Nat} {x : Int32} {l s : AL} (hc : cl M a = 9) : ev d (lf (.putfield i) [9, 17]) (l, .int x :: .ref a :: s, toH M) = some (.inl 0, l, s, toH (setI M a 17 x)) := pf_I hc (by decide) (by decide) (by decide) (by decide)
theorem x_pf_9_17 {d : Nat} {M : MM} {a i : Nat} {x : Int32} {l s : AL} {t : AT} (hc : cl M a = 9) : ev d (sq (lf (.putfield i) [9, 17]) t) (l, .int x :: .ref a :: s, toH M) = ev d t (l, s, toH (setI M a 17 x)) := by rw [ev_sq, y_pf_9_17 hc] <;> rfl
theorem y_pf_9_31 {d : Nat} {M : MM} {a i : Nat} {x : Int32} {l s : AL} (hc : cl M a = 9) : ev d (lf (.putfield i) [9, 31]) (l, .int x :: .ref a :: s, toH M) = some (.inl 0, l, s, toH (setI M a 31 x)) := pf_I hc (by decide) (by decide) (by decide) (by decide)
theorem x_pf_9_31 {d : Nat} {M : MM} {a i : Nat} {x : Int32} {l s : AL} {t : AT} (hc : cl M a = 9) : ev d (sq (lf (.putfield i) [9, 31]) t) (l, .int x :: .ref a :: s, toH M) = ev d t (l, s, toH (setI M a 31 x)) := by rw [ev_sq, y_pf_9_31 hc] <;> rfl
theorem y_pf_7_1 {d : Nat} {M : MM} {a i : Nat} {x : Int32} {l s : AL} (hc : cl M a = 7) : ev d (lf (.putfield i) [7, 1]) (l, .int x :: .ref a :: s, toH M) = some (.inl 0, l, s, toH (setI M a 1 x)) := pf_I hc (by decide) (by decide) (by decide) (by decide)
theorem x_pf_7_1 {d : Nat} {M : MM} {a i : Nat} {x : Int32} {l s : AL} {t : AT} (hc : cl M a = 7) : ev d (sq (lf (.putfield i) [7, 1]) t) (l, .int x :: .ref a :: s, toH M) = ev d t (l, s, toH (setI M a 1 x)) := by rw [ev_sq, y_pf_7_1 hc] <;> rfl
theorem y_pf_8_1 {d : Nat} {M : MM} {a i x : Nat} {l s : AL} (hc : cl M a = 8) : ev d (lf (.putfield i) [8, 1]) (l, .ref x :: .ref a :: s, toH M) = some (.inl 0, l, s, toH (setR M a 1 (some x))) := pf_R hc (by decide) (by decide) (by decide) (by decide)
theorem x_pf_8_1 {d : Nat} {M : MM} {a i x : Nat} {l s : AL} {t : AT} (hc : cl M a = 8) : ev d (sq (lf (.putfield i) [8, 1]) t) (l, .ref x :: .ref a :: s, toH M) = ev d t (l, s, toH (setR M a 1 (some x))) := by rw [ev_sq, y_pf_8_1 hc] <;> rfl
theorem y_pf_9_32 {d : Nat} {M : MM} {a i : Nat} {x : Int32} {l s : AL} (hc : cl M a = 9) : ev d (lf (.putfield i) [9, 32]) (l, .int x :: .ref a :: s, toH M) = some (.inl 0, l, s, toH (setI M a 32 x)) := pf_I hc (by decide) (by decide) (by decide) (by decide)
theorem x_pf_9_32 {d : Nat} {M : MM} {a i : Nat} {x : Int32} {l s : AL} {t : AT} (hc : cl M a = 9) : ev d (sq (lf (.putfield i) [9, 32]) t) (l, .int x :: .ref a :: s, toH M) = ev d t (l, s, toH (setI M a 32 x)) := by rw [ev_sq, y_pf_9_32 hc] <;> rfl
theorem y_pf_9_33 {d : Nat} {M : MM} {a i : Nat} {x : Int32} {l s : AL} (hc : cl M a = 9) : ev d (lf (.putfield i) [9, 33]) (l, .int x :: .ref a :: s, toH M) = some (.inl 0, l, s, toH (setI M a 33 x)) := pf_I hc (by decide) (by decide) (by decide) (by decide)
theorem x_pf_9_33 {d : Nat} {M : MM} {a i : Nat} {x : Int32} {l s : AL} {t : AT} (hc : cl M a = 9) : ev d (sq (lf (.putfield i) [9, 33]) t) (l, .int x :: .ref a :: s, toH M) = ev d t (l, s, toH (setI M a 33 x)) := by rw [ev_sq, y_pf_9_33 hc] <;> rfl
theorem y_pf_9_34 {d : Nat} {M : MM} {a i : Nat} {x : Int32} {l s : AL} (hc : cl M a = 9) : ev d (lf (.putfield i) [9, 34]) (l, .int x :: .ref a :: s, toH M) = some (.inl 0, l, s, toH (setI M a 34 x)) := pf_I hc (by decide) (by decide) (by decide) (by decide)
theorem x_pf_9_34 {d : Nat} {M : MM} {a i : Nat} {x : Int32} {l s : AL} {t : AT} (hc : cl M a = 9) : ev d (sq (lf (.putfield i) [9, 34]) t) (l, .int x :: .ref a :: s, toH M) = ev d t (l, s, toH (setI M a 34 x)) := by rw [ev_sq, y_pf_9_34 hc] <;> rfl
theorem y_pf_9_11 {d : Nat} {M : MM} {a i x : Nat} {l s : AL} (hc : cl M a = 9) : ev d (lf (.putfield i) [9, 11]) (l, .ref x :: .ref a :: s, toH M) = some (.inl 0, l, s, toH (setR M a 11 (some x))) := pf_R hc (by decide) (by decide) (by decide) (by decide)
theorem x_pf_9_11 {d : Nat} {M : MM} {a i x : Nat} {l s : AL} {t : AT} (hc : cl M a = 9) : ev d (sq (lf (.putfield i) [9, 11]) t) (l, .ref x :: .ref a :: s, toH M) = ev d t (l, s, toH (setR M a 11 (some x))) := by rw [ev_sq, y_pf_9_11 hc] <;> rfl
theorem y_pf_9_18 {d : Nat} {M : MM} {a i : Nat} {x : Int32} {l s : AL} (hc : cl M a = 9) : ev d (lf (.putfield i) [9, 18]) (l, .int x :: .ref a :: s, toH M) = some (.inl 0, l, s, toH (setI M a 18 x)) := pf_I hc (by decide) (by decide) (by decide) (by decide)
theorem x_pf_9_18 {d : Nat} {M : MM} {a i : Nat} {x : Int32} {l s : AL} {t : AT} (hc : cl M a = 9) : ev d (sq (lf (.putfield i) [9, 18]) t) (l, .int x :: .ref a :: s, toH M) = ev d t (l, s, toH (setI M a 18 x)) := by rw [ev_sq, y_pf_9_18 hc] <;> rfl
theorem y_pf_0_3 {d : Nat} {M : MM} {a i x : Nat} {l s : AL} (hc : cl M a = 0) : ev d (lf (.putfield i) [0, 3]) (l, .ref x :: .ref a :: s, toH M) = some (.inl 0, l, s, toH (setR M a 3 (some x))) := pf_R hc (by decide) (by decide) (by decide) (by decide)
theorem x_pf_0_3 {d : Nat} {M : MM} {a i x : Nat} {l s : AL} {t : AT} (hc : cl M a = 0) : ev d (sq (lf (.putfield i) [0, 3]) t) (l, .ref x :: .ref a :: s, toH M) = ev d t (l, s, toH (setR M a 3 (some x))) := by rw [ev_sq, y_pf_0_3 hc] <;> rfl
theorem y_pf_1_3 {d : Nat} {M : MM} {a i : Nat} {x : Int32} {l s : AL} (hc : cl M a = 1) : ev d (lf (.putfield i) [1, 3]) (l, .int x :: .ref a :: s, toH M) = some (.inl 0, l, s, toH (setI M a 3 x)) := pf_I hc (by decide) (by decide) (by decide) (by decide)
theorem x_pf_1_3 {d : Nat} {M : MM} {a i : Nat} {x : Int32} {l s : AL} {t : AT} (hc : cl M a = 1) : ev d (sq (lf (.putfield i) [1, 3]) t) (l, .int x :: .ref a :: s, toH M) = ev d t (l, s, toH (setI M a 3 x)) := by rw [ev_sq, y_pf_1_3 hc] <;> rfl
theorem y_pf_3_3 {d : Nat} {M : MM} {a i x : Nat} {l s : AL} (hc : cl M a = 3) : ev d (lf (.putfield i) [3, 3]) (l, .ref x :: .ref a :: s, toH M) = some (.inl 0, l, s, toH (setR M a 3 (some x))) := pf_R hc (by decide) (by decide) (by decide) (by decide)
theorem x_pf_3_3 {d : Nat} {M : MM} {a i x : Nat} {l s : AL} {t : AT} (hc : cl M a = 3) : ev d (sq (lf (.putfield i) [3, 3]) t) (l, .ref x :: .ref a :: s, toH M) = ev d t (l, s, toH (setR M a 3 (some x))) := by rw [ev_sq, y_pf_3_3 hc] <;> rfl
theorem y_pf_4_3 {d : Nat} {M : MM} {a i : Nat} {x : Int32} {l s : AL} (hc : cl M a = 4) : ev d (lf (.putfield i) [4, 3]) (l, .int x :: .ref a :: s, toH M) = some (.inl 0, l, s, toH (setI M a 3 x)) := pf_I hc (by decide) (by decide) (by decide) (by decide)
theorem x_pf_4_3 {d : Nat} {M : MM} {a i : Nat} {x : Int32} {l s : AL} {t : AT} (hc : cl M a = 4) : ev d (sq (lf (.putfield i) [4, 3]) t) (l, .int x :: .ref a :: s, toH M) = ev d t (l, s, toH (setI M a 3 x)) := by rw [ev_sq, y_pf_4_3 hc] <;> rfl
theorem y_pf_5_3 {d : Nat} {M : MM} {a i : Nat} {x : Int32} {l s : AL} (hc : cl M a = 5) : ev d (lf (.putfield i) [5, 3]) (l, .int x :: .ref a :: s, toH M) = some (.inl 0, l, s, toH (setI M a 3 x)) := pf_I hc (by decide) (by decide) (by decide) (by decide)
theorem x_pf_5_3 {d : Nat} {M : MM} {a i : Nat} {x : Int32} {l s : AL} {t : AT} (hc : cl M a = 5) : ev d (sq (lf (.putfield i) [5, 3]) t) (l, .int x :: .ref a :: s, toH M) = ev d t (l, s, toH (setI M a 3 x)) := by rw [ev_sq, y_pf_5_3 hc] <;> rfl
theorem y_pf_6_3 {d : Nat} {M : MM} {a i : Nat} {x : Int32} {l s : AL} (hc : cl M a = 6) : ev d (lf (.putfield i) [6, 3]) (l, .int x :: .ref a :: s, toH M) = some (.inl 0, l, s, toH (setI M a 3 x)) := pf_I hc (by decide) (by decide) (by decide) (by decide)
theorem x_pf_6_3 {d : Nat} {M : MM} {a i : Nat} {x : Int32} {l s : AL} {t : AT} (hc : cl M a = 6) : ev d (sq (lf (.putfield i) [6, 3]) t) (l, .int x :: .ref a :: s, toH M) = ev d t (l, s, toH (setI M a 3 x)) := by rw [ev_sq, y_pf_6_3 hc] <;> rfl
theorem y_pf_9_12 {d : Nat} {M : MM} {a i x : Nat} {l s : AL} (hc : cl M a = 9) : ev d (lf (.putfield i) [9, 12]) (l, .ref x :: .ref a :: s, toH M) = some (.inl 0, l, s, toH (setR M a 12 (some x))) := pf_R hc (by decide) (by decide) (by decide) (by decide)
theorem x_pf_9_12 {d : Nat} {M : MM} {a i x : Nat} {l s : AL} {t : AT} (hc : cl M a = 9) : ev d (sq (lf (.putfield i) [9, 12]) t) (l, .ref x :: .ref a :: s, toH M) = ev d t (l, s, toH (setR M a 12 (some x))) := by rw [ev_sq, y_pf_9_12 hc] <;> rfl
theorem y_pf_0_4 {d : Nat} {M : MM} {a i x : Nat} {l s : AL} (hc : cl M a = 0) : ev d (lf (.putfield i) [0, 4]) (l, .ref x :: .ref a :: s, toH M) = some (.inl 0, l, s, toH (setR M a 4 (some x))) := pf_R hc (by decide) (by decide) (by decide) (by decide)
theorem x_pf_0_4 {d : Nat} {M : MM} {a i x : Nat} {l s : AL} {t : AT} (hc : cl M a = 0) : ev d (sq (lf (.putfield i) [0, 4]) t) (l, .ref x :: .ref a :: s, toH M) = ev d t (l, s, toH (setR M a 4 (some x))) := by rw [ev_sq, y_pf_0_4 hc] <;> rfl
theorem y_pf_1_4 {d : Nat} {M : MM} {a i : Nat} {x : Int32} {l s : AL} (hc : cl M a = 1) : ev d (lf (.putfield i) [1, 4]) (l, .int x :: .ref a :: s, toH M) = some (.inl 0, l, s, toH (setI M a 4 x)) := pf_I hc (by decide) (by decide) (by decide) (by decide)
theorem x_pf_1_4 {d : Nat} {M : MM} {a i : Nat} {x : Int32} {l s : AL} {t : AT} (hc : cl M a = 1) : ev d (sq (lf (.putfield i) [1, 4]) t) (l, .int x :: .ref a :: s, toH M) = ev d t (l, s, toH (setI M a 4 x)) := by rw [ev_sq, y_pf_1_4 hc] <;> rfl
theorem y_pf_3_4 {d : Nat} {M : MM} {a i : Nat} {x : Int32} {l s : AL} (hc : cl M a = 3) : ev d (lf (.putfield i) [3, 4]) (l, .int x :: .ref a :: s, toH M) = some (.inl 0, l, s, toH (setI M a 4 x)) := pf_I hc (by decide) (by decide) (by decide) (by decide)
theorem x_pf_3_4 {d : Nat} {M : MM} {a i : Nat} {x : Int32} {l s : AL} {t : AT} (hc : cl M a = 3) : ev d (sq (lf (.putfield i) [3, 4]) t) (l, .int x :: .ref a :: s, toH M) = ev d t (l, s, toH (setI M a 4 x)) := by rw [ev_sq, y_pf_3_4 hc] <;> rfl
theorem y_pf_9_26 {d : Nat} {M : MM} {a i : Nat} {x : Int32} {l s : AL} (hc : cl M a = 9) : ev d (lf (.putfield i) [9, 26]) (l, .int x :: .ref a :: s, toH M) = some (.inl 0, l, s, toH (setI M a 26 x)) := pf_I hc (by decide) (by decide) (by decide) (by decide)
theorem x_pf_9_26 {d : Nat} {M : MM} {a i : Nat} {x : Int32} {l s : AL} {t : AT} (hc : cl M a = 9) : ev d (sq (lf (.putfield i) [9, 26]) t) (l, .int x :: .ref a :: s, toH M) = ev d t (l, s, toH (setI M a 26 x)) := by rw [ev_sq, y_pf_9_26 hc] <;> rfl
theorem y_pf_8_2 {d : Nat} {M : MM} {a i x : Nat} {l s : AL} (hc : cl M a = 8) : ev d (lf (.putfield i) [8, 2]) (l, .ref x :: .ref a :: s, toH M) = some (.inl 0, l, s, toH (setR M a 2 (some x))) := pf_R hc (by decide) (by decide) (by decide) (by decide)
theorem x_pf_8_2 {d : Nat} {M : MM} {a i x : Nat} {l s : AL} {t : AT} (hc : cl M a = 8) : ev d (sq (lf (.putfield i) [8, 2]) t) (l, .ref x :: .ref a :: s, toH M) = ev d t (l, s, toH (setR M a 2 (some x))) := by rw [ev_sq, y_pf_8_2 hc] <;> rfl
theorem y_pf_9_13 {d : Nat} {M : MM} {a i x : Nat} {l s : AL} (hc : cl M a = 9) : ev d (lf (.putfield i) [9, 13]) (l, .ref x :: .ref a :: s, toH M) = some (.inl 0, l, s, toH (setR M a 13 (some x))) := pf_R hc (by decide) (by decide) (by decide) (by decide)
theorem x_pf_9_13 {d : Nat} {M : MM} {a i x : Nat} {l s : AL} {t : AT} (hc : cl M a = 9) : ev d (sq (lf (.putfield i) [9, 13]) t) (l, .ref x :: .ref a :: s, toH M) = ev d t (l, s, toH (setR M a 13 (some x))) := by rw [ev_sq, y_pf_9_13 hc] <;> rfl
theorem y_pf_0_5 {d : Nat} {M : MM} {a i x : Nat} {l s : AL} (hc : cl M a = 0) : ev d (lf (.putfield i) [0, 5]) (l, .ref x :: .ref a :: s, toH M) = some (.inl 0, l, s, toH (setR M a 5 (some x))) := pf_R hc (by decide) (by decide) (by decide) (by decide)
theorem x_pf_0_5 {d : Nat} {M : MM} {a i x : Nat} {l s : AL} {t : AT} (hc : cl M a = 0) : ev d (sq (lf (.putfield i) [0, 5]) t) (l, .ref x :: .ref a :: s, toH M) = ev d t (l, s, toH (setR M a 5 (some x))) := by rw [ev_sq, y_pf_0_5 hc] <;> rfl
theorem y_pf_9_36 {d : Nat} {M : MM} {a i : Nat} {x : Int32} {l s : AL} (hc : cl M a = 9) : ev d (lf (.putfield i) [9, 36]) (l, .int x :: .ref a :: s, toH M) = some (.inl 0, l, s, toH (setI M a 36 x)) := pf_I hc (by decide) (by decide) (by decide) (by decide)
theorem x_pf_9_36 {d : Nat} {M : MM} {a i : Nat} {x : Int32} {l s : AL} {t : AT} (hc : cl M a = 9) : ev d (sq (lf (.putfield i) [9, 36]) t) (l, .int x :: .ref a :: s, toH M) = ev d t (l, s, toH (setI M a 36 x)) := by rw [ev_sq, y_pf_9_36 hc] <;> rfl
theorem y_pf_7_2 {d : Nat} {M : MM} {a i : Nat} {x : Int32} {l s : AL} (hc : cl M a = 7) : ev d (lf (.putfield i) [7, 2]) (l, .int x :: .ref a :: s, toH M) = some (.inl 0, l, s, toH (setI M a 2 x)) := pf_I hc (by decide) (by decide) (by decide) (by decide)
theorem x_pf_7_2 {d : Nat} {M : MM} {a i : Nat} {x : Int32} {l s : AL} {t : AT} (hc : cl M a = 7) : ev d (sq (lf (.putfield i) [7, 2]) t) (l, .int x :: .ref a :: s, toH M) = ev d t (l, s, toH (setI M a 2 x)) := by rw [ev_sq, y_pf_7_2 hc] <;> rfl
theorem y_pf_9_37 {d : Nat} {M : MM} {a i : Nat} {x : Int32} {l s : AL} (hc : cl M a = 9) : ev d (lf (.putfield i) [9, 37]) (l, .int x :: .ref a :: s, toH M) = some (.inl 0, l, s, toH (setI M a 37 x)) := pf_I hc (by decide) (by decide) (by decide) (by decide)
theorem x_pf_9_37 {d : Nat} {M : MM} {a i : Nat} {x : Int32} {l s : AL} {t : AT} (hc : cl M a = 9) : ev d (sq (lf (.putfield i) [9, 37]) t) (l, .int x :: .ref a :: s, toH M) = ev d t (l, s, toH (setI M a 37 x)) := by rw [ev_sq, y_pf_9_37 hc] <;> rfl
theorem y_pf_9_14 {d : Nat} {M : MM} {a i x : Nat} {l s : AL} (hc : cl M a = 9) : ev d (lf (.putfield i) [9, 14]) (l, .ref x :: .ref a :: s, toH M) = some (.inl 0, l, s, toH (setR M a 14 (some x))) := pf_R hc (by decide) (by decide) (by decide) (by decide)
theorem x_pf_9_14 {d : Nat} {M : MM} {a i x : Nat} {l s : AL} {t : AT} (hc : cl M a = 9) : ev d (sq (lf (.putfield i) [9, 14]) t) (l, .ref x :: .ref a :: s, toH M) = ev d t (l, s, toH (setR M a 14 (some x))) := by rw [ev_sq, y_pf_9_14 hc] <;> rfl
theorem y_pf_0_6 {d : Nat} {M : MM} {a i x : Nat} {l s : AL} (hc : cl M a = 0) : ev d (lf (.putfield i) [0, 6]) (l, .ref x :: .ref a :: s, toH M) = some (.inl 0, l, s, toH (setR M a 6 (some x))) := pf_R hc (by decide) (by decide) (by decide) (by decide)
theorem x_pf_0_6 {d : Nat} {M : MM} {a i x : Nat} {l s : AL} {t : AT} (hc : cl M a = 0) : ev d (sq (lf (.putfield i) [0, 6]) t) (l, .ref x :: .ref a :: s, toH M) = ev d t (l, s, toH (setR M a 6 (some x))) := by rw [ev_sq, y_pf_0_6 hc] <;> rfl
theorem y_pf_7_3 {d : Nat} {M : MM} {a i : Nat} {x : Int32} {l s : AL} (hc : cl M a = 7) : ev d (lf (.putfield i) [7, 3]) (l, .int x :: .ref a :: s, toH M) = some (.inl 0, l, s, toH (setI M a 3 x)) := pf_I hc (by decide) (by decide) (by decide) (by decide)
theorem x_pf_7_3 {d : Nat} {M : MM} {a i : Nat} {x : Int32} {l s : AL} {t : AT} (hc : cl M a = 7) : ev d (sq (lf (.putfield i) [7, 3]) t) (l, .int x :: .ref a :: s, toH M) = ev d t (l, s, toH (setI M a 3 x)) := by rw [ev_sq, y_pf_7_3 hc] <;> rfl
theorem y_pf_9_38 {d : Nat} {M : MM} {a i : Nat} {x : Int32} {l s : AL} (hc : cl M a = 9) : ev d (lf (.putfield i) [9, 38]) (l, .int x :: .ref a :: s, toH M) = some (.inl 0, l, s, toH (setI M a 38 x)) := pf_I hc (by decide) (by decide) (by decide) (by decide)
theorem x_pf_9_38 {d : Nat} {M : MM} {a i : Nat} {x : Int32} {l s : AL} {t : AT} (hc : cl M a = 9) : ev d (sq (lf (.putfield i) [9, 38]) t) (l, .int x :: .ref a :: s, toH M) = ev d t (l, s, toH (setI M a 38 x)) := by rw [ev_sq, y_pf_9_38 hc] <;> rfl
theorem y_pf_9_39 {d : Nat} {M : MM} {a i : Nat} {x : Int32} {l s : AL} (hc : cl M a = 9) : ev d (lf (.putfield i) [9, 39]) (l, .int x :: .ref a :: s, toH M) = some (.inl 0, l, s, toH (setI M a 39 x)) := pf_I hc (by decide) (by decide) (by decide) (by decide)
theorem x_pf_9_39 {d : Nat} {M : MM} {a i : Nat} {x : Int32} {l s : AL} {t : AT} (hc : cl M a = 9) : ev d (sq (lf (.putfield i) [9, 39]) t) (l, .int x :: .ref a :: s, toH M) = ev d t (l, s, toH (setI M a 39 x)) := by rw [ev_sq, y_pf_9_39 hc] <;> rfl
theorem y_pf_9_40 {d : Nat} {M : MM} {a i : Nat} {x : Int32} {l s : AL} (hc : cl M a = 9) : ev d (lf (.putfield i) [9, 40]) (l, .int x :: .ref a :: s, toH M) = some (.inl 0, l, s, toH (setI M a 40 x)) := pf_I hc (by decide) (by decide) (by decide) (by decide)
theorem x_pf_9_40 {d : Nat} {M : MM} {a i : Nat} {x : Int32} {l s : AL} {t : AT} (hc : cl M a = 9) : ev d (sq (lf (.putfield i) [9, 40]) t) (l, .int x :: .ref a :: s, toH M) = ev d t (l, s, toH (setI M a 40 x)) := by rw [ev_sq, y_pf_9_40 hc] <;> rfl
theorem y_pf_0_8 {d : Nat} {M : MM} {a i : Nat} {x : Int32} {l s : AL} (hc : cl M a = 0) : ev d (lf (.putfield i) [0, 8]) (l, .int x :: .ref a :: s, toH M) = some (.inl 0, l, s, toH (setI M a 8 x)) := pf_I hc (by decide) (by decide) (by decide) (by decide)
theorem x_pf_0_8 {d : Nat} {M : MM} {a i : Nat} {x : Int32} {l s : AL} {t : AT} (hc : cl M a = 0) : ev d (sq (lf (.putfield i) [0, 8]) t) (l, .int x :: .ref a :: s, toH M) = ev d t (l, s, toH (setI M a 8 x)) := by rw [ev_sq, y_pf_0_8 hc] <;> rfl
theorem y_pf_8_3 {d : Nat} {M : MM} {a i x : Nat} {l s : AL} (hc : cl M a = 8) : ev d (lf (.putfield i) [8, 3]) (l, .ref x :: .ref a :: s, toH M) = some (.inl 0, l, s, toH (setR M a 3 (some x))) := pf_R hc (by decide) (by decide) (by decide) (by decide)
theorem x_pf_8_3 {d : Nat} {M : MM} {a i x : Nat} {l s : AL} {t : AT} (hc : cl M a = 8) : ev d (sq (lf (.putfield i) [8, 3]) t) (l, .ref x :: .ref a :: s, toH M) = ev d t (l, s, toH (setR M a 3 (some x))) := by rw [ev_sq, y_pf_8_3 hc] <;> rfl
theorem y_pf_3_5 {d : Nat} {M : MM} {a i : Nat} {x : Int32} {l s : AL} (hc : cl M a = 3) : ev d (lf (.putfield i) [3, 5]) (l, .int x :: .ref a :: s, toH M) = some (.inl 0, l, s, toH (setI M a 5 x)) := pf_I hc (by decide) (by decide) (by decide) (by decide)
theorem x_pf_3_5 {d : Nat} {M : MM} {a i : Nat} {x : Int32} {l s : AL} {t : AT} (hc : cl M a = 3) : ev d (sq (lf (.putfield i) [3, 5]) t) (l, .int x :: .ref a :: s, toH M) = ev d t (l, s, toH (setI M a 5 x)) := by rw [ev_sq, y_pf_3_5 hc] <;> rfl
theorem y_pf_7_4 {d : Nat} {M : MM} {a i : Nat} {x : Int32} {l s : AL} (hc : cl M a = 7) : ev d (lf (.putfield i) [7, 4]) (l, .int x :: .ref a :: s, toH M) = some (.inl 0, l, s, toH (setI M a 4 x)) := pf_I hc (by decide) (by decide) (by decide) (by decide)
theorem x_pf_7_4 {d : Nat} {M : MM} {a i : Nat} {x : Int32} {l s : AL} {t : AT} (hc : cl M a = 7) : ev d (sq (lf (.putfield i) [7, 4]) t) (l, .int x :: .ref a :: s, toH M) = ev d t (l, s, toH (setI M a 4 x)) := by rw [ev_sq, y_pf_7_4 hc] <;> rfl
theorem y_pf_9_15 {d : Nat} {M : MM} {a i x : Nat} {l s : AL} (hc : cl M a = 9) : ev d (lf (.putfield i) [9, 15]) (l, .ref x :: .ref a :: s, toH M) = some (.inl 0, l, s, toH (setR M a 15 (some x))) := pf_R hc (by decide) (by decide) (by decide) (by decide)
theorem x_pf_9_15 {d : Nat} {M : MM} {a i x : Nat} {l s : AL} {t : AT} (hc : cl M a = 9) : ev d (sq (lf (.putfield i) [9, 15]) t) (l, .ref x :: .ref a :: s, toH M) = ev d t (l, s, toH (setR M a 15 (some x))) := by rw [ev_sq, y_pf_9_15 hc] <;> rfl
theorem y_pf_9_44 {d : Nat} {M : MM} {a i : Nat} {x : Int32} {l s : AL} (hc : cl M a = 9) : ev d (lf (.putfield i) [9, 44]) (l, .int x :: .ref a :: s, toH M) = some (.inl 0, l, s, toH (setI M a 44 x)) := pf_I hc (by decide) (by decide) (by decide) (by decide)
theorem x_pf_9_44 {d : Nat} {M : MM} {a i : Nat} {x : Int32} {l s : AL} {t : AT} (hc : cl M a = 9) : ev d (sq (lf (.putfield i) [9, 44]) t) (l, .int x :: .ref a :: s, toH M) = ev d t (l, s, toH (setI M a 44 x)) := by rw [ev_sq, y_pf_9_44 hc] <;> rfl
theorem y_pf_8_13 {d : Nat} {M : MM} {a i : Nat} {x : Int32} {l s : AL} (hc : cl M a = 8) : ev d (lf (.putfield i) [8, 13]) (l, .int x :: .ref a :: s, toH M) = some (.inl 0, l, s, toH (setI M a 13 x)) := pf_I hc (by decide) (by decide) (by decide) (by decide)
theorem x_pf_8_13 {d : Nat} {M : MM} {a i : Nat} {x : Int32} {l s : AL} {t : AT} (hc : cl M a = 8) : ev d (sq (lf (.putfield i) [8, 13]) t) (l, .int x :: .ref a :: s, toH M) = ev d t (l, s, toH (setI M a 13 x)) := by rw [ev_sq, y_pf_8_13 hc] <;> rfl
theorem y_pf_8_15 {d : Nat} {M : MM} {a i : Nat} {x : Int32} {l s : AL} (hc : cl M a = 8) : ev d (lf (.putfield i) [8, 15]) (l, .int x :: .ref a :: s, toH M) = some (.inl 0, l, s, toH (setI M a 15 x)) := pf_I hc (by decide) (by decide) (by decide) (by decide)
theorem x_pf_8_15 {d : Nat} {M : MM} {a i : Nat} {x : Int32} {l s : AL} {t : AT} (hc : cl M a = 8) : ev d (sq (lf (.putfield i) [8, 15]) t) (l, .int x :: .ref a :: s, toH M) = ev d t (l, s, toH (setI M a 15 x)) := by rw [ev_sq, y_pf_8_15 hc] <;> rfl
theorem y_pf_0_9 {d : Nat} {M : MM} {a i : Nat} {x : Int32} {l s : AL} (hc : cl M a = 0) : ev d (lf (.putfield i) [0, 9]) (l, .int x :: .ref a :: s, toH M) = some (.inl 0, l, s, toH (setI M a 9 x)) := pf_I hc (by decide) (by decide) (by decide) (by decide)
theorem x_pf_0_9 {d : Nat} {M : MM} {a i : Nat} {x : Int32} {l s : AL} {t : AT} (hc : cl M a = 0) : ev d (sq (lf (.putfield i) [0, 9]) t) (l, .int x :: .ref a :: s, toH M) = ev d t (l, s, toH (setI M a 9 x)) := by rw [ev_sq, y_pf_0_9 hc] <;> rfl
theorem y_pf_3_6 {d : Nat} {M : MM} {a i : Nat} {x : Int32} {l s : AL} (hc : cl M a = 3) : ev d (lf (.putfield i) [3, 6]) (l, .int x :: .ref a :: s, toH M) = some (.inl 0, l, s, toH (setI M a 6 x)) := pf_I hc (by decide) (by decide) (by decide) (by decide)
theorem x_pf_3_6 {d : Nat} {M : MM} {a i : Nat} {x : Int32} {l s : AL} {t : AT} (hc : cl M a = 3) : ev d (sq (lf (.putfield i) [3, 6]) t) (l, .int x :: .ref a :: s, toH M) = ev d t (l, s, toH (setI M a 6 x)) := by rw [ev_sq, y_pf_3_6 hc] <;> rfl
theorem y_pf_7_5 {d : Nat} {M : MM} {a i : Nat} {x : Int32} {l s : AL} (hc : cl M a = 7) : ev d (lf (.putfield i) [7, 5]) (l, .int x :: .ref a :: s, toH M) = some (.inl 0, l, s, toH (setI M a 5 x)) := pf_I hc (by decide) (by decide) (by decide) (by decide)
theorem x_pf_7_5 {d : Nat} {M : MM} {a i : Nat} {x : Int32} {l s : AL} {t : AT} (hc : cl M a = 7) : ev d (sq (lf (.putfield i) [7, 5]) t) (l, .int x :: .ref a :: s, toH M) = ev d t (l, s, toH (setI M a 5 x)) := by rw [ev_sq, y_pf_7_5 hc] <;> rfl
theorem y_pf_9_16 {d : Nat} {M : MM} {a i x : Nat} {l s : AL} (hc : cl M a = 9) : ev d (lf (.putfield i) [9, 16]) (l, .ref x :: .ref a :: s, toH M) = some (.inl 0, l, s, toH (setR M a 16 (some x))) := pf_R hc (by decide) (by decide) (by decide) (by decide)
theorem x_pf_9_16 {d : Nat} {M : MM} {a i x : Nat} {l s : AL} {t : AT} (hc : cl M a = 9) : ev d (sq (lf (.putfield i) [9, 16]) t) (l, .ref x :: .ref a :: s, toH M) = ev d t (l, s, toH (setR M a 16 (some x))) := by rw [ev_sq, y_pf_9_16 hc] <;> rfl
theorem y_pf_8_16 {d : Nat} {M : MM} {a i : Nat} {x : Int32} {l s : AL} (hc : cl M a = 8) : ev d (lf (.putfield i) [8, 16]) (l, .int x :: .ref a :: s, toH M) = some (.inl 0, l, s, toH (setI M a 16 x)) := pf_I hc (by decide) (by decide) (by decide) (by decide)
theorem x_pf_8_16 {d : Nat} {M : MM} {a i : Nat} {x : Int32} {l s : AL} {t : AT} (hc : cl M a = 8) : ev d (sq (lf (.putfield i) [8, 16]) t) (l, .int x :: .ref a :: s, toH M) = ev d t (l, s, toH (setI M a 16 x)) := by rw [ev_sq, y_pf_8_16 hc] <;> rfl
theorem y_pf_9_45 {d : Nat} {M : MM} {a i : Nat} {x : Int32} {l s : AL} (hc : cl M a = 9) : ev d (lf (.putfield i) [9, 45]) (l, .int x :: .ref a :: s, toH M) = some (.inl 0, l, s, toH (setI M a 45 x)) := pf_I hc (by decide) (by decide) (by decide) (by decide)
theorem x_pf_9_45 {d : Nat} {M : MM} {a i : Nat} {x : Int32} {l s : AL} {t : AT} (hc : cl M a = 9) : ev d (sq (lf (.putfield i) [9, 45]) t) (l, .int x :: .ref a :: s, toH M) = ev d t (l, s, toH (setI M a 45 x)) := by rw [ev_sq, y_pf_9_45 hc] <;> rfl
theorem y_pf_9_46 {d : Nat} {M : MM} {a i : Nat} {x : Int32} {l s : AL} (hc : cl M a = 9) : ev d (lf (.putfield i) [9, 46]) (l, .int x :: .ref a :: s, toH M) = some (.inl 0, l, s, toH (setI M a 46 x)) := pf_I hc (by decide) (by decide) (by decide) (by decide)
theorem x_pf_9_46 {d : Nat} {M : MM} {a i : Nat} {x : Int32} {l s : AL} {t : AT} (hc : cl M a = 9) : ev d (sq (lf (.putfield i) [9, 46]) t) (l, .int x :: .ref a :: s, toH M) = ev d t (l, s, toH (setI M a 46 x)) := by rw [ev_sq, y_pf_9_46 hc] <;> rfl
theorem y_pf_9_35 {d : Nat} {M : MM} {a i : Nat} {x : Int32} {l s : AL} (hc : cl M a = 9) : ev d (lf (.putfield i) [9, 35]) (l, .int x :: .ref a :: s, toH M) = some (.inl 0, l, s, toH (setI M a 35 x)) := pf_I hc (by decide) (by decide) (by decide) (by decide)
theorem x_pf_9_35 {d : Nat} {M : MM} {a i : Nat} {x : Int32} {l s : AL} {t : AT} (hc : cl M a = 9) : ev d (sq (lf (.putfield i) [9, 35]) t) (l, .int x :: .ref a :: s, toH M) = ev d t (l, s, toH (setI M a 35 x)) := by rw [ev_sq, y_pf_9_35 hc] <;> rfl
theorem y_pf_0_10 {d : Nat} {M : MM} {a i : Nat} {x : Int32} {l s : AL} (hc : cl M a = 0) : ev d (lf (.putfield i) [0, 10]) (l, .int x :: .ref a :: s, toH M) = some (.inl 0, l, s, toH (setI M a 10 x)) := pf_I hc (by decide) (by decide) (by decide) (by decide)
theorem x_pf_0_10 {d : Nat} {M : MM} {a i : Nat} {x : Int32} {l s : AL} {t : AT} (hc : cl M a = 0) : ev d (sq (lf (.putfield i) [0, 10]) t) (l, .int x :: .ref a :: s, toH M) = ev d t (l, s, toH (setI M a 10 x)) := by rw [ev_sq, y_pf_0_10 hc] <;> rfl
theorem y_pf_3_7 {d : Nat} {M : MM} {a i : Nat} {x : Int32} {l s : AL} (hc : cl M a = 3) : ev d (lf (.putfield i) [3, 7]) (l, .int x :: .ref a :: s, toH M) = some (.inl 0, l, s, toH (setI M a 7 x)) := pf_I hc (by decide) (by decide) (by decide) (by decide)
theorem x_pf_3_7 {d : Nat} {M : MM} {a i : Nat} {x : Int32} {l s : AL} {t : AT} (hc : cl M a = 3) : ev d (sq (lf (.putfield i) [3, 7]) t) (l, .int x :: .ref a :: s, toH M) = ev d t (l, s, toH (setI M a 7 x)) := by rw [ev_sq, y_pf_3_7 hc] <;> rfl
theorem y_pf_8_4 {d : Nat} {M : MM} {a i x : Nat} {l s : AL} (hc : cl M a = 8) : ev d (lf (.putfield i) [8, 4]) (l, .ref x :: .ref a :: s, toH M) = some (.inl 0, l, s, toH (setR M a 4 (some x))) := pf_R hc (by decide) (by decide) (by decide) (by decide)
theorem x_pf_8_4 {d : Nat} {M : MM} {a i x : Nat} {l s : AL} {t : AT} (hc : cl M a = 8) : ev d (sq (lf (.putfield i) [8, 4]) t) (l, .ref x :: .ref a :: s, toH M) = ev d t (l, s, toH (setR M a 4 (some x))) := by rw [ev_sq, y_pf_8_4 hc] <;> rfl
theorem y_pf_9_19 {d : Nat} {M : MM} {a i x : Nat} {l s : AL} (hc : cl M a = 9) : ev d (lf (.putfield i) [9, 19]) (l, .ref x :: .ref a :: s, toH M) = some (.inl 0, l, s, toH (setR M a 19 (some x))) := pf_R hc (by decide) (by decide) (by decide) (by decide)
theorem x_pf_9_19 {d : Nat} {M : MM} {a i x : Nat} {l s : AL} {t : AT} (hc : cl M a = 9) : ev d (sq (lf (.putfield i) [9, 19]) t) (l, .ref x :: .ref a :: s, toH M) = ev d t (l, s, toH (setR M a 19 (some x))) := by rw [ev_sq, y_pf_9_19 hc] <;> rfl
theorem y_pf_3_8 {d : Nat} {M : MM} {a i : Nat} {x : Int32} {l s : AL} (hc : cl M a = 3) : ev d (lf (.putfield i) [3, 8]) (l, .int x :: .ref a :: s, toH M) = some (.inl 0, l, s, toH (setI M a 8 x)) := pf_I hc (by decide) (by decide) (by decide) (by decide)
theorem x_pf_3_8 {d : Nat} {M : MM} {a i : Nat} {x : Int32} {l s : AL} {t : AT} (hc : cl M a = 3) : ev d (sq (lf (.putfield i) [3, 8]) t) (l, .int x :: .ref a :: s, toH M) = ev d t (l, s, toH (setI M a 8 x)) := by rw [ev_sq, y_pf_3_8 hc] <;> rfl
theorem y_pf_9_20 {d : Nat} {M : MM} {a i x : Nat} {l s : AL} (hc : cl M a = 9) : ev d (lf (.putfield i) [9, 20]) (l, .ref x :: .ref a :: s, toH M) = some (.inl 0, l, s, toH (setR M a 20 (some x))) := pf_R hc (by decide) (by decide) (by decide) (by decide)
theorem x_pf_9_20 {d : Nat} {M : MM} {a i x : Nat} {l s : AL} {t : AT} (hc : cl M a = 9) : ev d (sq (lf (.putfield i) [9, 20]) t) (l, .ref x :: .ref a :: s, toH M) = ev d t (l, s, toH (setR M a 20 (some x))) := by rw [ev_sq, y_pf_9_20 hc] <;> rfl
theorem y_pf_8_5 {d : Nat} {M : MM} {a i x : Nat} {l s : AL} (hc : cl M a = 8) : ev d (lf (.putfield i) [8, 5]) (l, .ref x :: .ref a :: s, toH M) = some (.inl 0, l, s, toH (setR M a 5 (some x))) := pf_R hc (by decide) (by decide) (by decide) (by decide)
theorem x_pf_8_5 {d : Nat} {M : MM} {a i x : Nat} {l s : AL} {t : AT} (hc : cl M a = 8) : ev d (sq (lf (.putfield i) [8, 5]) t) (l, .ref x :: .ref a :: s, toH M) = ev d t (l, s, toH (setR M a 5 (some x))) := by rw [ev_sq, y_pf_8_5 hc] <;> rfl
theorem y_pf_3_9 {d : Nat} {M : MM} {a i : Nat} {x : Int32} {l s : AL} (hc : cl M a = 3) : ev d (lf (.putfield i) [3, 9]) (l, .int x :: .ref a :: s, toH M) = some (.inl 0, l, s, toH (setI M a 9 x)) := pf_I hc (by decide) (by decide) (by decide) (by decide)
theorem x_pf_3_9 {d : Nat} {M : MM} {a i : Nat} {x : Int32} {l s : AL} {t : AT} (hc : cl M a = 3) : ev d (sq (lf (.putfield i) [3, 9]) t) (l, .int x :: .ref a :: s, toH M) = ev d t (l, s, toH (setI M a 9 x)) := by rw [ev_sq, y_pf_3_9 hc] <;> rfl
theorem y_pf_9_21 {d : Nat} {M : MM} {a i x : Nat} {l s : AL} (hc : cl M a = 9) : ev d (lf (.putfield i) [9, 21]) (l, .ref x :: .ref a :: s, toH M) = some (.inl 0, l, s, toH (setR M a 21 (some x))) := pf_R hc (by decide) (by decide) (by decide) (by decide)
theorem x_pf_9_21 {d : Nat} {M : MM} {a i x : Nat} {l s : AL} {t : AT} (hc : cl M a = 9) : ev d (sq (lf (.putfield i) [9, 21]) t) (l, .ref x :: .ref a :: s, toH M) = ev d t (l, s, toH (setR M a 21 (some x))) := by rw [ev_sq, y_pf_9_21 hc] <;> rfl
theorem y_pf_9_22 {d : Nat} {M : MM} {a i x : Nat} {l s : AL} (hc : cl M a = 9) : ev d (lf (.putfield i) [9, 22]) (l, .ref x :: .ref a :: s, toH M) = some (.inl 0, l, s, toH (setR M a 22 (some x))) := pf_R hc (by decide) (by decide) (by decide) (by decide)
theorem x_pf_9_22 {d : Nat} {M : MM} {a i x : Nat} {l s : AL} {t : AT} (hc : cl M a = 9) : ev d (sq (lf (.putfield i) [9, 22]) t) (l, .ref x :: .ref a :: s, toH M) = ev d t (l, s, toH (setR M a 22 (some x))) := by rw [ev_sq, y_pf_9_22 hc] <;> rfl
theorem y_pf_8_6 {d : Nat} {M : MM} {a i x : Nat} {l s : AL} (hc : cl M a = 8) : ev d (lf (.putfield i) [8, 6]) (l, .ref x :: .ref a :: s, toH M) = some (.inl 0, l, s, toH (setR M a 6 (some x))) := pf_R hc (by decide) (by decide) (by decide) (by decide)
theorem x_pf_8_6 {d : Nat} {M : MM} {a i x : Nat} {l s : AL} {t : AT} (hc : cl M a = 8) : ev d (sq (lf (.putfield i) [8, 6]) t) (l, .ref x :: .ref a :: s, toH M) = ev d t (l, s, toH (setR M a 6 (some x))) := by rw [ev_sq, y_pf_8_6 hc] <;> rfl
theorem y_pf_9_23 {d : Nat} {M : MM} {a i x : Nat} {l s : AL} (hc : cl M a = 9) : ev d (lf (.putfield i) [9, 23]) (l, .ref x :: .ref a :: s, toH M) = some (.inl 0, l, s, toH (setR M a 23 (some x))) := pf_R hc (by decide) (by decide) (by decide) (by decide)
theorem x_pf_9_23 {d : Nat} {M : MM} {a i x : Nat} {l s : AL} {t : AT} (hc : cl M a = 9) : ev d (sq (lf (.putfield i) [9, 23]) t) (l, .ref x :: .ref a :: s, toH M) = ev d t (l, s, toH (setR M a 23 (some x))) := by rw [ev_sq, y_pf_9_23 hc] <;> rfl
theorem y_pf_8_7 {d : Nat} {M : MM} {a i x : Nat} {l s : AL} (hc : cl M a = 8) : ev d (lf (.putfield i) [8, 7]) (l, .ref x :: .ref a :: s, toH M) = some (.inl 0, l, s, toH (setR M a 7 (some x))) := pf_R hc (by decide) (by decide) (by decide) (by decide)
theorem x_pf_8_7 {d : Nat} {M : MM} {a i x : Nat} {l s : AL} {t : AT} (hc : cl M a = 8) : ev d (sq (lf (.putfield i) [8, 7]) t) (l, .ref x :: .ref a :: s, toH M) = ev d t (l, s, toH (setR M a 7 (some x))) := by rw [ev_sq, y_pf_8_7 hc] <;> rfl
theorem y_pf_9_24 {d : Nat} {M : MM} {a i x : Nat} {l s : AL} (hc : cl M a = 9) : ev d (lf (.putfield i) [9, 24]) (l, .ref x :: .ref a :: s, toH M) = some (.inl 0, l, s, toH (setR M a 24 (some x))) := pf_R hc (by decide) (by decide) (by decide) (by decide)
theorem x_pf_9_24 {d : Nat} {M : MM} {a i x : Nat} {l s : AL} {t : AT} (hc : cl M a = 9) : ev d (sq (lf (.putfield i) [9, 24]) t) (l, .ref x :: .ref a :: s, toH M) = ev d t (l, s, toH (setR M a 24 (some x))) := by rw [ev_sq, y_pf_9_24 hc] <;> rfl
theorem y_pf_9_25 {d : Nat} {M : MM} {a i x : Nat} {l s : AL} (hc : cl M a = 9) : ev d (lf (.putfield i) [9, 25]) (l, .ref x :: .ref a :: s, toH M) = some (.inl 0, l, s, toH (setR M a 25 (some x))) := pf_R hc (by decide) (by decide) (by decide) (by decide)
theorem x_pf_9_25 {d : Nat} {M : MM} {a i x : Nat} {l s : AL} {t : AT} (hc : cl M a = 9) : ev d (sq (lf (.putfield i) [9, 25]) t) (l, .ref x :: .ref a :: s, toH M) = ev d t (l, s, toH (setR M a 25 (some x))) := by rw [ev_sq, y_pf_9_25 hc] <;> rfl
theorem y_pf_0_7 {d : Nat} {M : MM} {a i : Nat} {x : Int32} {l s : AL} (hc : cl M a = 0) : ev d (lf (.putfield i) [0, 7]) (l, .int x :: .ref a :: s, toH M) = some (.inl 0, l, s, toH (setI M a 7 x)) := pf_I hc (by decide) (by decide) (by decide) (by decide)
theorem x_pf_0_7 {d : Nat} {M : MM} {a i : Nat} {x : Int32} {l s : AL} {t : AT} (hc : cl M a = 0) : ev d (sq (lf (.putfield i) [0, 7]) t) (l, .int x :: .ref a :: s, toH M) = ev d t (l, s, toH (setI M a 7 x)) := by rw [ev_sq, y_pf_0_7 hc] <;> rfl
theorem y_pf_8_8 {d : Nat} {M : MM} {a i x : Nat} {l s : AL} (hc : cl M a = 8) : ev d (lf (.putfield i) [8, 8]) (l, .ref x :: .ref a :: s, toH M) = some (.inl 0, l, s, toH (setR M a 8 (some x))) := pf_R hc (by decide) (by decide) (by decide) (by decide)
theorem x_pf_8_8 {d : Nat} {M : MM} {a i x : Nat} {l s : AL} {t : AT} (hc : cl M a = 8) : ev d (sq (lf (.putfield i) [8, 8]) t) (l, .ref x :: .ref a :: s, toH M) = ev d t (l, s, toH (setR M a 8 (some x))) := by rw [ev_sq, y_pf_8_8 hc] <;> rfl
theorem y_pf_9_27 {d : Nat} {M : MM} {a i x : Nat} {l s : AL} (hc : cl M a = 9) : ev d (lf (.putfield i) [9, 27]) (l, .ref x :: .ref a :: s, toH M) = some (.inl 0, l, s, toH (setR M a 27 (some x))) := pf_R hc (by decide) (by decide) (by decide) (by decide)
theorem x_pf_9_27 {d : Nat} {M : MM} {a i x : Nat} {l s : AL} {t : AT} (hc : cl M a = 9) : ev d (sq (lf (.putfield i) [9, 27]) t) (l, .ref x :: .ref a :: s, toH M) = ev d t (l, s, toH (setR M a 27 (some x))) := by rw [ev_sq, y_pf_9_27 hc] <;> rfl
theorem y_pf_9_28 {d : Nat} {M : MM} {a i x : Nat} {l s : AL} (hc : cl M a = 9) : ev d (lf (.putfield i) [9, 28]) (l, .ref x :: .ref a :: s, toH M) = some (.inl 0, l, s, toH (setR M a 28 (some x))) := pf_R hc (by decide) (by decide) (by decide) (by decide)
theorem x_pf_9_28 {d : Nat} {M : MM} {a i x : Nat} {l s : AL} {t : AT} (hc : cl M a = 9) : ev d (sq (lf (.putfield i) [9, 28]) t) (l, .ref x :: .ref a :: s, toH M) = ev d t (l, s, toH (setR M a 28 (some x))) := by rw [ev_sq, y_pf_9_28 hc] <;> rfl
theorem y_pf_8_9 {d : Nat} {M : MM} {a i x : Nat} {l s : AL} (hc : cl M a = 8) : ev d (lf (.putfield i) [8, 9]) (l, .ref x :: .ref a :: s, toH M) = some (.inl 0, l, s, toH (setR M a 9 (some x))) := pf_R hc (by decide) (by decide) (by decide) (by decide)
theorem x_pf_8_9 {d : Nat} {M : MM} {a i x : Nat} {l s : AL} {t : AT} (hc : cl M a = 8) : ev d (sq (lf (.putfield i) [8, 9]) t) (l, .ref x :: .ref a :: s, toH M) = ev d t (l, s, toH (setR M a 9 (some x))) := by rw [ev_sq, y_pf_8_9 hc] <;> rfl
theorem y_pf_9_29 {d : Nat} {M : MM} {a i x : Nat} {l s : AL} (hc : cl M a = 9) : ev d (lf (.putfield i) [9, 29]) (l, .ref x :: .ref a :: s, toH M) = some (.inl 0, l, s, toH (setR M a 29 (some x))) := pf_R hc (by decide) (by decide) (by decide) (by decide)
theorem x_pf_9_29 {d : Nat} {M : MM} {a i x : Nat} {l s : AL} {t : AT} (hc : cl M a = 9) : ev d (sq (lf (.putfield i) [9, 29]) t) (l, .ref x :: .ref a :: s, toH M) = ev d t (l, s, toH (setR M a 29 (some x))) := by rw [ev_sq, y_pf_9_29 hc] <;> rfl
theorem y_pf_9_30 {d : Nat} {M : MM} {a i x : Nat} {l s : AL} (hc : cl M a = 9) : ev d (lf (.putfield i) [9, 30]) (l, .ref x :: .ref a :: s, toH M) = some (.inl 0, l, s, toH (setR M a 30 (some x))) := pf_R hc (by decide) (by decide) (by decide) (by decide)
theorem x_pf_9_30 {d : Nat} {M : MM} {a i x : Nat} {l s : AL} {t : AT} (hc : cl M a = 9) : ev d (sq (lf (.putfield i) [9, 30]) t) (l, .ref x :: .ref a :: s, toH M) = ev d t (l, s, toH (setR M a 30 (some x))) := by rw [ev_sq, y_pf_9_30 hc] <;> rfl
theorem y_pf_8_10 {d : Nat} {M : MM} {a i x : Nat} {l s : AL} (hc : cl M a = 8) : ev d (lf (.putfield i) [8, 10]) (l, .ref x :: .ref a :: s, toH M) = some (.inl 0, l, s, toH (setR M a 10 (some x))) := pf_R hc (by decide) (by decide) (by decide) (by decide)
theorem x_pf_8_10 {d : Nat} {M : MM} {a i x : Nat} {l s : AL} {t : AT} (hc : cl M a = 8) : ev d (sq (lf (.putfield i) [8, 10]) t) (l, .ref x :: .ref a :: s, toH M) = ev d t (l, s, toH (setR M a 10 (some x))) := by rw [ev_sq, y_pf_8_10 hc] <;> rfl
theorem y_pf_9_41 {d : Nat} {M : MM} {a i x : Nat} {l s : AL} (hc : cl M a = 9) : ev d (lf (.putfield i) [9, 41]) (l, .ref x :: .ref a :: s, toH M) = some (.inl 0, l, s, toH (setR M a 41 (some x))) := pf_R hc (by decide) (by decide) (by decide) (by decide)
theorem x_pf_9_41 {d : Nat} {M : MM} {a i x : Nat} {l s : AL} {t : AT} (hc : cl M a = 9) : ev d (sq (lf (.putfield i) [9, 41]) t) (l, .ref x :: .ref a :: s, toH M) = ev d t (l, s, toH (setR M a 41 (some x))) := by rw [ev_sq, y_pf_9_41 hc] <;> rfl
theorem y_pf_8_11 {d : Nat} {M : MM} {a i x : Nat} {l s : AL} (hc : cl M a = 8) : ev d (lf (.putfield i) [8, 11]) (l, .ref x :: .ref a :: s, toH M) = some (.inl 0, l, s, toH (setR M a 11 (some x))) := pf_R hc (by decide) (by decide) (by decide) (by decide)
theorem x_pf_8_11 {d : Nat} {M : MM} {a i x : Nat} {l s : AL} {t : AT} (hc : cl M a = 8) : ev d (sq (lf (.putfield i) [8, 11]) t) (l, .ref x :: .ref a :: s, toH M) = ev d t (l, s, toH (setR M a 11 (some x))) := by rw [ev_sq, y_pf_8_11 hc] <;> rfl
theorem y_pf_9_42 {d : Nat} {M : MM} {a i x : Nat} {l s : AL} (hc : cl M a = 9) : ev d (lf (.putfield i) [9, 42]) (l, .ref x :: .ref a :: s, toH M) = some (.inl 0, l, s, toH (setR M a 42 (some x))) := pf_R hc (by decide) (by decide) (by decide) (by decide)
theorem x_pf_9_42 {d : Nat} {M : MM} {a i x : Nat} {l s : AL} {t : AT} (hc : cl M a = 9) : ev d (sq (lf (.putfield i) [9, 42]) t) (l, .ref x :: .ref a :: s, toH M) = ev d t (l, s, toH (setR M a 42 (some x))) := by rw [ev_sq, y_pf_9_42 hc] <;> rfl
theorem y_pf_8_12 {d : Nat} {M : MM} {a i x : Nat} {l s : AL} (hc : cl M a = 8) : ev d (lf (.putfield i) [8, 12]) (l, .ref x :: .ref a :: s, toH M) = some (.inl 0, l, s, toH (setR M a 12 (some x))) := pf_R hc (by decide) (by decide) (by decide) (by decide)
theorem x_pf_8_12 {d : Nat} {M : MM} {a i x : Nat} {l s : AL} {t : AT} (hc : cl M a = 8) : ev d (sq (lf (.putfield i) [8, 12]) t) (l, .ref x :: .ref a :: s, toH M) = ev d t (l, s, toH (setR M a 12 (some x))) := by rw [ev_sq, y_pf_8_12 hc] <;> rfl
theorem y_pf_9_43 {d : Nat} {M : MM} {a i x : Nat} {l s : AL} (hc : cl M a = 9) : ev d (lf (.putfield i) [9, 43]) (l, .ref x :: .ref a :: s, toH M) = some (.inl 0, l, s, toH (setR M a 43 (some x))) := pf_R hc (by decide) (by decide) (by decide) (by decide)
theorem x_pf_9_43 {d : Nat} {M : MM} {a i x : Nat} {l s : AL} {t : AT} (hc : cl M a = 9) : ev d (sq (lf (.putfield i) [9, 43]) t) (l, .ref x :: .ref a :: s, toH M) = ev d t (l, s, toH (setR M a 43 (some x))) := by rw [ev_sq, y_pf_9_43 hc] <;> rfl
theorem y_pf_9_0 {d : Nat} {M : MM} {a i : Nat} {x : Int32} {l s : AL} (hc : cl M a = 9) : ev d (lf (.putfield i) [9, 0]) (l, .int x :: .ref a :: s, toH M) = some (.inl 0, l, s, toH (setI M a 0 x)) := pf_I hc (by decide) (by decide) (by decide) (by decide)
theorem x_pf_9_0 {d : Nat} {M : MM} {a i : Nat} {x : Int32} {l s : AL} {t : AT} (hc : cl M a = 9) : ev d (sq (lf (.putfield i) [9, 0]) t) (l, .int x :: .ref a :: s, toH M) = ev d t (l, s, toH (setI M a 0 x)) := by rw [ev_sq, y_pf_9_0 hc] <;> rfl
theorem y_pf_0_0 {d : Nat} {M : MM} {a i x : Nat} {l s : AL} (hc : cl M a = 0) : ev d (lf (.putfield i) [0, 0]) (l, .ref x :: .ref a :: s, toH M) = some (.inl 0, l, s, toH (setR M a 0 (some x))) := pf_R hc (by decide) (by decide) (by decide) (by decide)
theorem x_pf_0_0 {d : Nat} {M : MM} {a i x : Nat} {l s : AL} {t : AT} (hc : cl M a = 0) : ev d (sq (lf (.putfield i) [0, 0]) t) (l, .ref x :: .ref a :: s, toH M) = ev d t (l, s, toH (setR M a 0 (some x))) := by rw [ev_sq, y_pf_0_0 hc] <;> rfl
theorem y_pf_1_0 {d : Nat} {M : MM} {a i : Nat} {x : Int32} {l s : AL} (hc : cl M a = 1) : ev d (lf (.putfield i) [1, 0]) (l, .int x :: .ref a :: s, toH M) = some (.inl 0, l, s, toH (setI M a 0 x)) := pf_I hc (by decide) (by decide) (by decide) (by decide)
theorem x_pf_1_0 {d : Nat} {M : MM} {a i : Nat} {x : Int32} {l s : AL} {t : AT} (hc : cl M a = 1) : ev d (sq (lf (.putfield i) [1, 0]) t) (l, .int x :: .ref a :: s, toH M) = ev d t (l, s, toH (setI M a 0 x)) := by rw [ev_sq, y_pf_1_0 hc] <;> rfl
theorem y_pf_2_0 {d : Nat} {M : MM} {a i x : Nat} {l s : AL} (hc : cl M a = 2) : ev d (lf (.putfield i) [2, 0]) (l, .ref x :: .ref a :: s, toH M) = some (.inl 0, l, s, toH (setR M a 0 (some x))) := pf_R hc (by decide) (by decide) (by decide) (by decide)
theorem x_pf_2_0 {d : Nat} {M : MM} {a i x : Nat} {l s : AL} {t : AT} (hc : cl M a = 2) : ev d (sq (lf (.putfield i) [2, 0]) t) (l, .ref x :: .ref a :: s, toH M) = ev d t (l, s, toH (setR M a 0 (some x))) := by rw [ev_sq, y_pf_2_0 hc] <;> rfl
theorem y_pf_3_0 {d : Nat} {M : MM} {a i x : Nat} {l s : AL} (hc : cl M a = 3) : ev d (lf (.putfield i) [3, 0]) (l, .ref x :: .ref a :: s, toH M) = some (.inl 0, l, s, toH (setR M a 0 (some x))) := pf_R hc (by decide) (by decide) (by decide) (by decide)
theorem x_pf_3_0 {d : Nat} {M : MM} {a i x : Nat} {l s : AL} {t : AT} (hc : cl M a = 3) : ev d (sq (lf (.putfield i) [3, 0]) t) (l, .ref x :: .ref a :: s, toH M) = ev d t (l, s, toH (setR M a 0 (some x))) := by rw [ev_sq, y_pf_3_0 hc] <;> rfl
theorem y_pf_4_0 {d : Nat} {M : MM} {a i x : Nat} {l s : AL} (hc : cl M a = 4) : ev d (lf (.putfield i) [4, 0]) (l, .ref x :: .ref a :: s, toH M) = some (.inl 0, l, s, toH (setR M a 0 (some x))) := pf_R hc (by decide) (by decide) (by decide) (by decide)
theorem x_pf_4_0 {d : Nat} {M : MM} {a i x : Nat} {l s : AL} {t : AT} (hc : cl M a = 4) : ev d (sq (lf (.putfield i) [4, 0]) t) (l, .ref x :: .ref a :: s, toH M) = ev d t (l, s, toH (setR M a 0 (some x))) := by rw [ev_sq, y_pf_4_0 hc] <;> rfl
theorem y_pf_5_0 {d : Nat} {M : MM} {a i x : Nat} {l s : AL} (hc : cl M a = 5) : ev d (lf (.putfield i) [5, 0]) (l, .ref x :: .ref a :: s, toH M) = some (.inl 0, l, s, toH (setR M a 0 (some x))) := pf_R hc (by decide) (by decide) (by decide) (by decide)
theorem x_pf_5_0 {d : Nat} {M : MM} {a i x : Nat} {l s : AL} {t : AT} (hc : cl M a = 5) : ev d (sq (lf (.putfield i) [5, 0]) t) (l, .ref x :: .ref a :: s, toH M) = ev d t (l, s, toH (setR M a 0 (some x))) := by rw [ev_sq, y_pf_5_0 hc] <;> rfl
theorem y_pf_7_0 {d : Nat} {M : MM} {a i x : Nat} {l s : AL} (hc : cl M a = 7) : ev d (lf (.putfield i) [7, 0]) (l, .ref x :: .ref a :: s, toH M) = some (.inl 0, l, s, toH (setR M a 0 (some x))) := pf_R hc (by decide) (by decide) (by decide) (by decide)
theorem x_pf_7_0 {d : Nat} {M : MM} {a i x : Nat} {l s : AL} {t : AT} (hc : cl M a = 7) : ev d (sq (lf (.putfield i) [7, 0]) t) (l, .ref x :: .ref a :: s, toH M) = ev d t (l, s, toH (setR M a 0 (some x))) := by rw [ev_sq, y_pf_7_0 hc] <;> rfl
theorem y_pf_9_3 {d : Nat} {M : MM} {a i : Nat} {x : Int32} {l s : AL} (hc : cl M a = 9) : ev d (lf (.putfield i) [9, 3]) (l, .int x :: .ref a :: s, toH M) = some (.inl 0, l, s, toH (setI M a 3 x)) := pf_I hc (by decide) (by decide) (by decide) (by decide)
theorem x_pf_9_3 {d : Nat} {M : MM} {a i : Nat} {x : Int32} {l s : AL} {t : AT} (hc : cl M a = 9) : ev d (sq (lf (.putfield i) [9, 3]) t) (l, .int x :: .ref a :: s, toH M) = ev d t (l, s, toH (setI M a 3 x)) := by rw [ev_sq, y_pf_9_3 hc] <;> rfl
theorem y_pf_5_4 {d : Nat} {M : MM} {a i : Nat} {x : Int32} {l s : AL} (hc : cl M a = 5) : ev d (lf (.putfield i) [5, 4]) (l, .int x :: .ref a :: s, toH M) = some (.inl 0, l, s, toH (setI M a 4 x)) := pf_I hc (by decide) (by decide) (by decide) (by decide)
theorem x_pf_5_4 {d : Nat} {M : MM} {a i : Nat} {x : Int32} {l s : AL} {t : AT} (hc : cl M a = 5) : ev d (sq (lf (.putfield i) [5, 4]) t) (l, .int x :: .ref a :: s, toH M) = ev d t (l, s, toH (setI M a 4 x)) := by rw [ev_sq, y_pf_5_4 hc] <;> rfl
theorem y_pf_9_1 {d : Nat} {M : MM} {a i : Nat} {x : Int32} {l s : AL} (hc : cl M a = 9) : ev d (lf (.putfield i) [9, 1]) (l, .int x :: .ref a :: s, toH M) = some (.inl 0, l, s, toH (setI M a 1 x)) := pf_I hc (by decide) (by decide) (by decide) (by decide)
theorem x_pf_9_1 {d : Nat} {M : MM} {a i : Nat} {x : Int32} {l s : AL} {t : AT} (hc : cl M a = 9) : ev d (sq (lf (.putfield i) [9, 1]) t) (l, .int x :: .ref a :: s, toH M) = ev d t (l, s, toH (setI M a 1 x)) := by rw [ev_sq, y_pf_9_1 hc] <;> rfl
theorem y_pf_5_5 {d : Nat} {M : MM} {a i : Nat} {x : Int32} {l s : AL} (hc : cl M a = 5) : ev d (lf (.putfield i) [5, 5]) (l, .int x :: .ref a :: s, toH M) = some (.inl 0, l, s, toH (setI M a 5 x)) := pf_I hc (by decide) (by decide) (by decide) (by decide)
theorem x_pf_5_5 {d : Nat} {M : MM} {a i : Nat} {x : Int32} {l s : AL} {t : AT} (hc : cl M a = 5) : ev d (sq (lf (.putfield i) [5, 5]) t) (l, .int x :: .ref a :: s, toH M) = ev d t (l, s, toH (setI M a 5 x)) := by rw [ev_sq, y_pf_5_5 hc] <;> rfl
theorem y_pf_9_2 {d : Nat} {M : MM} {a i : Nat} {x : Int32} {l s : AL} (hc : cl M a = 9) : ev d (lf (.putfield i) [9, 2]) (l, .int x :: .ref a :: s, toH M) = some (.inl 0, l, s, toH (setI M a 2 x)) := pf_I hc (by decide) (by decide) (by decide) (by decide)
theorem x_pf_9_2 {d : Nat} {M : MM} {a i : Nat} {x : Int32} {l s : AL} {t : AT} (hc : cl M a = 9) : ev d (sq (lf (.putfield i) [9, 2]) t) (l, .int x :: .ref a :: s, toH M) = ev d t (l, s, toH (setI M a 2 x)) := by rw [ev_sq, y_pf_9_2 hc] <;> rfl
theorem y_pf_5_6 {d : Nat} {M : MM} {a i : Nat} {x : Int32} {l s : AL} (hc : cl M a = 5) : ev d (lf (.putfield i) [5, 6]) (l, .int x :: .ref a :: s, toH M) = some (.inl 0, l, s, toH (setI M a 6 x)) := pf_I hc (by decide) (by decide) (by decide) (by decide)
theorem x_pf_5_6 {d : Nat} {M : MM} {a i : Nat} {x : Int32} {l s : AL} {t : AT} (hc : cl M a = 5) : ev d (sq (lf (.putfield i) [5, 6]) t) (l, .int x :: .ref a :: s, toH M) = ev d t (l, s, toH (setI M a 6 x)) := by rw [ev_sq, y_pf_5_6 hc] <;> rfl
theorem y_pf_9_4 {d : Nat} {M : MM} {a i : Nat} {x : Int32} {l s : AL} (hc : cl M a = 9) : ev d (lf (.putfield i) [9, 4]) (l, .int x :: .ref a :: s, toH M) = some (.inl 0, l, s, toH (setI M a 4 x)) := pf_I hc (by decide) (by decide) (by decide) (by decide)
theorem x_pf_9_4 {d : Nat} {M : MM} {a i : Nat} {x : Int32} {l s : AL} {t : AT} (hc : cl M a = 9) : ev d (sq (lf (.putfield i) [9, 4]) t) (l, .int x :: .ref a :: s, toH M) = ev d t (l, s, toH (setI M a 4 x)) := by rw [ev_sq, y_pf_9_4 hc] <;> rfl
theorem y_ret {d : Nat} {l : AL} {h : AH} : ev d (lf (.return_) []) (l, [], h) = some (.inr (.inl none), l, [], h) := by rw [ev_lf]; rfl
theorem y_sipush_12345 {d : Nat} {l s : AL} {h : AH} : ev d (lf (.sipush 12345) []) (l, s, h) = some (.inl 0, l, .int (nI 12345) :: s, h) := by
  rw [ev_lf]
  show some ((.inl 0 : AO), l, Value.int ((Int16.ofInt (12345)).toInt32) :: s, h) = _
  rw [show (Int16.ofInt (12345)).toInt32 = nI 12345 by decide +kernel]
theorem x_sipush_12345 {d : Nat} {l s : AL} {h : AH} {t : AT} : ev d (sq (lf (.sipush 12345) []) t) (l, s, h) = ev d t (l, .int (nI 12345) :: s, h) := by rw [ev_sq, y_sipush_12345] <;> rfl
theorem y_sipush_1412 {d : Nat} {l s : AL} {h : AH} : ev d (lf (.sipush 1412) []) (l, s, h) = some (.inl 0, l, .int (nI 1412) :: s, h) := by
  rw [ev_lf]
  show some ((.inl 0 : AO), l, Value.int ((Int16.ofInt (1412)).toInt32) :: s, h) = _
  rw [show (Int16.ofInt (1412)).toInt32 = nI 1412 by decide +kernel]
theorem x_sipush_1412 {d : Nat} {l s : AL} {h : AH} {t : AT} : ev d (sq (lf (.sipush 1412) []) t) (l, s, h) = ev d t (l, .int (nI 1412) :: s, h) := by rw [ev_sq, y_sipush_1412] <;> rfl
theorem y_sipush_150 {d : Nat} {l s : AL} {h : AH} : ev d (lf (.sipush 150) []) (l, s, h) = some (.inl 0, l, .int (nI 150) :: s, h) := by
  rw [ev_lf]
  show some ((.inl 0 : AO), l, Value.int ((Int16.ofInt (150)).toInt32) :: s, h) = _
  rw [show (Int16.ofInt (150)).toInt32 = nI 150 by decide +kernel]
theorem x_sipush_150 {d : Nat} {l s : AL} {h : AH} {t : AT} : ev d (sq (lf (.sipush 150) []) t) (l, s, h) = ev d t (l, .int (nI 150) :: s, h) := by rw [ev_sq, y_sipush_150] <;> rfl
theorem y_sipush_160 {d : Nat} {l s : AL} {h : AH} : ev d (lf (.sipush 160) []) (l, s, h) = some (.inl 0, l, .int (nI 160) :: s, h) := by
  rw [ev_lf]
  show some ((.inl 0 : AO), l, Value.int ((Int16.ofInt (160)).toInt32) :: s, h) = _
  rw [show (Int16.ofInt (160)).toInt32 = nI 160 by decide +kernel]
theorem x_sipush_160 {d : Nat} {l s : AL} {h : AH} {t : AT} : ev d (sq (lf (.sipush 160) []) t) (l, s, h) = ev d t (l, .int (nI 160) :: s, h) := by rw [ev_sq, y_sipush_160] <;> rfl
theorem y_sipush_200 {d : Nat} {l s : AL} {h : AH} : ev d (lf (.sipush 200) []) (l, s, h) = some (.inl 0, l, .int (nI 200) :: s, h) := by
  rw [ev_lf]
  show some ((.inl 0 : AO), l, Value.int ((Int16.ofInt (200)).toInt32) :: s, h) = _
  rw [show (Int16.ofInt (200)).toInt32 = nI 200 by decide +kernel]
theorem x_sipush_200 {d : Nat} {l s : AL} {h : AH} {t : AT} : ev d (sq (lf (.sipush 200) []) t) (l, s, h) = ev d t (l, .int (nI 200) :: s, h) := by rw [ev_sq, y_sipush_200] <;> rfl
theorem y_sipush_255 {d : Nat} {l s : AL} {h : AH} : ev d (lf (.sipush 255) []) (l, s, h) = some (.inl 0, l, .int (nI 255) :: s, h) := by
  rw [ev_lf]
  show some ((.inl 0 : AO), l, Value.int ((Int16.ofInt (255)).toInt32) :: s, h) = _
  rw [show (Int16.ofInt (255)).toInt32 = nI 255 by decide +kernel]
theorem x_sipush_255 {d : Nat} {l s : AL} {h : AH} {t : AT} : ev d (sq (lf (.sipush 255) []) t) (l, s, h) = ev d t (l, .int (nI 255) :: s, h) := by rw [ev_sq, y_sipush_255] <;> rfl
theorem y_sipush_32767 {d : Nat} {l s : AL} {h : AH} : ev d (lf (.sipush 32767) []) (l, s, h) = some (.inl 0, l, .int (nI 32767) :: s, h) := by
  rw [ev_lf]
  show some ((.inl 0 : AO), l, Value.int ((Int16.ofInt (32767)).toInt32) :: s, h) = _
  rw [show (Int16.ofInt (32767)).toInt32 = nI 32767 by decide +kernel]
theorem x_sipush_32767 {d : Nat} {l s : AL} {h : AH} {t : AT} : ev d (sq (lf (.sipush 32767) []) t) (l, s, h) = ev d t (l, .int (nI 32767) :: s, h) := by rw [ev_sq, y_sipush_32767] <;> rfl
theorem y_sipush_600 {d : Nat} {l s : AL} {h : AH} : ev d (lf (.sipush 600) []) (l, s, h) = some (.inl 0, l, .int (nI 600) :: s, h) := by
  rw [ev_lf]
  show some ((.inl 0 : AO), l, Value.int ((Int16.ofInt (600)).toInt32) :: s, h) = _
  rw [show (Int16.ofInt (600)).toInt32 = nI 600 by decide +kernel]
theorem x_sipush_600 {d : Nat} {l s : AL} {h : AH} {t : AT} : ev d (sq (lf (.sipush 600) []) t) (l, s, h) = ev d t (l, .int (nI 600) :: s, h) := by rw [ev_sq, y_sipush_600] <;> rfl
theorem y_sipush_999 {d : Nat} {l s : AL} {h : AH} : ev d (lf (.sipush 999) []) (l, s, h) = some (.inl 0, l, .int (nI 999) :: s, h) := by
  rw [ev_lf]
  show some ((.inl 0 : AO), l, Value.int ((Int16.ofInt (999)).toInt32) :: s, h) = _
  rw [show (Int16.ofInt (999)).toInt32 = nI 999 by decide +kernel]
theorem x_sipush_999 {d : Nat} {l s : AL} {h : AH} {t : AT} : ev d (sq (lf (.sipush 999) []) t) (l, s, h) = ev d t (l, .int (nI 999) :: s, h) := by rw [ev_sq, y_sipush_999] <;> rfl
