/-! ===== the simple instructions: what the small machine does, the real one does ===== -/
theorem ldI_inv {k : Nat} {loc stk : AL} {q : AL × AL} (h : ldI k loc stk = some q) : ∃ x, loc[k]? = some (.int x) ∧ q = (loc, .int x :: stk) := by
  unfold ldI at h; split at h
  · rename_i x e; cases h; exact ⟨x, e, rfl⟩
  · cases h
theorem ldL_inv {k : Nat} {loc stk : AL} {q : AL × AL} (h : ldL k loc stk = some q) : ∃ x, loc[k]? = some (.long x) ∧ q = (loc, .long x :: stk) := by
  unfold ldL at h; split at h
  · rename_i x e; cases h; exact ⟨x, e, rfl⟩
  · cases h
theorem ldA_inv {k : Nat} {loc stk : AL} {q : AL × AL} (h : ldA k loc stk = some q) : (∃ x, loc[k]? = some (.ref x) ∧ q = (loc, .ref x :: stk)) ∨ (loc[k]? = some .null ∧ q = (loc, .null :: stk)) := by
  unfold ldA at h; split at h
  · rename_i x e; cases h; exact Or.inl ⟨x, e, rfl⟩
  · rename_i e; cases h; exact Or.inr ⟨e, rfl⟩
  · cases h
theorem stI_inv {k : Nat} {loc stk : AL} {q : AL × AL} (h : stI k loc stk = some q) : ∃ x r, stk = .int x :: r ∧ k < loc.length ∧ q = (lset1 loc k (.int x), r) := by
  unfold stI at h; split at h
  · rename_i x r
    split at h
    · rename_i hk; cases h; exact ⟨x, r, rfl, hk, rfl⟩
    · cases h
  · cases h
theorem stL_inv {k : Nat} {loc stk : AL} {q : AL × AL} (h : stL k loc stk = some q) : ∃ x r, stk = .long x :: r ∧ k + 1 < loc.length ∧ q = (lset2 loc k (.long x), r) := by
  unfold stL at h; split at h
  · rename_i x r
    split at h
    · rename_i hk; cases h; exact ⟨x, r, rfl, hk, rfl⟩
    · cases h
  · cases h
theorem stA_inv {k : Nat} {loc stk : AL} {q : AL × AL} (h : stA k loc stk = some q) : (∃ x r, stk = .ref x :: r ∧ k < loc.length ∧ q = (lset1 loc k (.ref x), r)) ∨ (∃ r, stk = .null :: r ∧ k < loc.length ∧ q = (lset1 loc k .null, r)) := by
  unfold stA at h; split at h
  · rename_i x r
    split at h
    · rename_i hk; cases h; exact Or.inl ⟨x, r, rfl, hk, rfl⟩
    · cases h
  · rename_i r
    split at h
    · rename_i hk; cases h; exact Or.inr ⟨r, rfl, hk, rfl⟩
    · cases h
  · cases h
theorem incI_inv {k : Nat} {n : Int} {loc stk : AL} {q : AL × AL} (h : incI k n loc stk = some q) : ∃ x, loc[k]? = some (.int x) ∧ q = (lset1 loc k (.int (x + Int32.ofInt n)), stk) := by
  unfold incI at h; split at h
  · rename_i x e; cases h; exact ⟨x, e, rfl⟩
  · cases h
theorem binI_inv {f : Int32 → Int32 → Int32} {loc stk : AL} {q : AL × AL} (h : binI f loc stk = some q) : ∃ x y r, stk = .int y :: .int x :: r ∧ q = (loc, .int (f x y) :: r) := by
  unfold binI at h; split at h
  · rename_i y x r; cases h; exact ⟨x, y, r, rfl, rfl⟩
  · cases h
theorem dvI_inv {f : Int32 → Int32 → Int32} {loc stk : AL} {q : AL × AL} (h : dvI f loc stk = some q) : ∃ x y r, stk = .int y :: .int x :: r ∧ ¬ y = 0 ∧ q = (loc, .int (f x y) :: r) := by
  unfold dvI at h; split at h
  · rename_i y x r
    split at h
    · cases h
    · rename_i hy; cases h; exact ⟨x, y, r, rfl, hy, rfl⟩
  · cases h
theorem binL_inv {f : Int64 → Int64 → Int64} {loc stk : AL} {q : AL × AL} (h : binL f loc stk = some q) : ∃ x y r, stk = .long y :: .long x :: r ∧ q = (loc, .long (f x y) :: r) := by
  unfold binL at h; split at h
  · rename_i y x r; cases h; exact ⟨x, y, r, rfl, rfl⟩
  · cases h
theorem dvL_inv {f : Int64 → Int64 → Int64} {loc stk : AL} {q : AL × AL} (h : dvL f loc stk = some q) : ∃ x y r, stk = .long y :: .long x :: r ∧ ¬ y = 0 ∧ q = (loc, .long (f x y) :: r) := by
  unfold dvL at h; split at h
  · rename_i y x r
    split at h
    · cases h
    · rename_i hy; cases h; exact ⟨x, y, r, rfl, hy, rfl⟩
  · cases h
theorem unI_inv {f : Int32 → Value} {loc stk : AL} {q : AL × AL} (h : unI f loc stk = some q) : ∃ x r, stk = .int x :: r ∧ q = (loc, f x :: r) := by
  unfold unI at h; split at h
  · rename_i x r; cases h; exact ⟨x, r, rfl, rfl⟩
  · cases h
theorem cmpL_inv {loc stk : AL} {q : AL × AL} (h : cmpL loc stk = some q) : ∃ x y r, stk = .long y :: .long x :: r ∧ q = (loc, .int (lg_cmp x y) :: r) := by
  unfold cmpL at h; split at h
  · rename_i y x r; cases h; exact ⟨x, y, r, rfl, rfl⟩
  · cases h
theorem dupO_inv {loc stk : AL} {q : AL × AL} (h : dupO loc stk = some q) : ∃ v r, stk = v :: r ∧ v.category = 1 ∧ q = (loc, v :: v :: r) := by
  unfold dupO at h; split at h
  · rename_i v r
    split at h
    · rename_i hv; cases h; exact ⟨v, r, rfl, hv, rfl⟩
    · cases h
  · cases h
theorem dup2O_inv {loc stk : AL} {q : AL × AL} (h : dup2O loc stk = some q) : ∃ v u r, stk = v :: u :: r ∧ v.category = 1 ∧ u.category = 1 ∧ q = (loc, v :: u :: v :: u :: r) := by
  unfold dup2O at h; split at h
  · rename_i v u r
    split at h
    · rename_i hv; cases h; exact ⟨v, u, r, rfl, hv.1, hv.2, rfl⟩
    · cases h
  · cases h
theorem popO_inv {loc stk : AL} {q : AL × AL} (h : popO loc stk = some q) : ∃ v r, stk = v :: r ∧ v.category = 1 ∧ q = (loc, r) := by
  unfold popO at h; split at h
  · rename_i v r
    split at h
    · rename_i hv; cases h; exact ⟨v, r, rfl, hv, rfl⟩
    · cases h
  · cases h
section SOP
variable {p : Program} {l : Launch} {e : Env} {R : Room} {s : State} {m : MethodId} {args : Array Value} {below : List Frame} {meth : Method} {c : Code} {H : Heap} {locs : List Loc} {cells slots : Nat} {Q : State → Prop}
variable {G : GG} {cc : ByteArray} {pc : Nat} {ls : Array Slot} {nL : Nat}
theorem st1_ok {loc : AL} {k : Nat} {v : Value} {rest : List Value} {pc' : Nat} (hL : LR G ls nL loc) (hk : k < loc.length)
    (kk : ∀ ls' : Array Slot, LR G ls' nL (lset1 loc k v) → W p l e R s m args below meth c H locs cells slots Q (F0 m pc' ls' rest)) :
    ∀ ls' : Array Slot, lv_has ls' nL ((k, tv G v) :: (loc.zipIdx.filterMap (fun q => if q.1 = jk then none else some (q.2, tv G q.1))).filter (fun q => !(q.1 == k) && !(q.1 + 1 == k && q.2.category == 2))) → W p l e R s m args below meth c H locs cells slots Q (F0 m pc' ls' rest) :=
  fun ls' h => kk ls' (LR.st1 hL.1 hk h)
theorem st2_ok {loc : AL} {k : Nat} {v : Value} {rest : List Value} {pc' : Nat} (hL : LR G ls nL loc) (hk : k + 1 < loc.length)
    (kk : ∀ ls' : Array Slot, LR G ls' nL (lset2 loc k v) → W p l e R s m args below meth c H locs cells slots Q (F0 m pc' ls' rest)) :
    ∀ ls' : Array Slot, lv_has ls' nL ((k, tv G v) :: (loc.zipIdx.filterMap (fun q => if q.1 = jk then none else some (q.2, tv G q.1))).filter (fun q => !(q.1 == k) && (!(q.1 == k + 1) && !(q.1 + 1 == k && q.2.category == 2)))) → W p l e R s m args below meth c H locs cells slots Q (F0 m pc' ls' rest) :=
  fun ls' h => kk ls' (LR.st2 hL.1 hk h)
set_option maxHeartbeats 4000000 in
theorem sop_ok {i : Instr} {loc stk : AL} {q : AL × AL} (hx : p.tables.exec = Jvm.exec) (hb : c.code = cc) (hd : decode cc pc = .ok (i, ilen i)) (hs : sop i loc stk = some q) (hL : LR G ls nL loc)
    (kk : ∀ ls' : Array Slot, LR G ls' nL q.1 → W p l e R s m args below meth c H locs cells slots Q (F0 m (pc + ilen i) ls' (q.2.map (tv G)))) :
    W p l e R s m args below meth c H locs cells slots Q (F0 m pc ls (stk.map (tv G))) := by
  unfold sop at hs
  split at hs
  · cases hs; exact lv_iconst hx hb hd rfl (kk ls hL)
  · cases hs; exact lv_bipush hx hb hd rfl (kk ls hL)
  · cases hs; exact lv_sipush hx hb hd rfl (kk ls hL)
  · cases hs; exact lv_lconst hx hb hd rfl (kk ls hL)
  · cases hs; exact lv_null hx hb hd (kk ls hL)
  · obtain ⟨x, h1, rfl⟩ := ldI_inv hs; exact lv_iload_n hx hb hd rfl (hL.at h1 (by simp)) (kk ls hL)
  · obtain ⟨x, h1, rfl⟩ := ldI_inv hs; exact lv_iload hx hb hd (hL.at h1 (by simp)) (kk ls hL)
  · obtain ⟨x, h1, rfl⟩ := ldL_inv hs; exact lv_lload_n hx hb hd rfl (hL.at h1 (by simp)) (kk ls hL)
  · obtain ⟨x, h1, rfl⟩ := ldL_inv hs; exact lv_lload hx hb hd (hL.at h1 (by simp)) (kk ls hL)
  · rcases ldA_inv hs with ⟨x, h1, rfl⟩ | ⟨h1, rfl⟩
    · exact lv_aload_n hx hb hd rfl (hL.at h1 (by simp)) (kk ls hL)
    · exact lv_aload_nN hx hb hd rfl (hL.at h1 (by simp)) (kk ls hL)
  · rcases ldA_inv hs with ⟨x, h1, rfl⟩ | ⟨h1, rfl⟩
    · exact lv_aload hx hb hd (hL.at h1 (by simp)) (kk ls hL)
    · exact lv_aloadN hx hb hd (hL.at h1 (by simp)) (kk ls hL)
  · obtain ⟨x, r, rfl, h1, rfl⟩ := stI_inv hs; exact lv_istore_n hx hb hd rfl hL.2 (by rw [← hL.1]; exact h1) rfl (st1_ok (v := .int x) hL h1 kk)
  · obtain ⟨x, r, rfl, h1, rfl⟩ := stI_inv hs; exact lv_istore hx hb hd hL.2 (by rw [← hL.1]; exact h1) rfl (st1_ok (v := .int x) hL h1 kk)
  · obtain ⟨x, r, rfl, h1, rfl⟩ := stL_inv hs; exact lv_lstore_n hx hb hd rfl hL.2 (by rw [← hL.1]; exact h1) rfl (st2_ok (v := .long x) hL h1 kk)
  · obtain ⟨x, r, rfl, h1, rfl⟩ := stL_inv hs; exact lv_lstore hx hb hd hL.2 (by rw [← hL.1]; exact h1) rfl (st2_ok (v := .long x) hL h1 kk)
  · rcases stA_inv hs with ⟨x, r, rfl, h1, rfl⟩ | ⟨r, rfl, h1, rfl⟩
    · exact lv_astore_n hx hb hd rfl hL.2 (by rw [← hL.1]; exact h1) rfl (st1_ok (v := .ref x) hL h1 kk)
    · exact lv_astore_nN hx hb hd rfl hL.2 (by rw [← hL.1]; exact h1) rfl (st1_ok (v := .null) hL h1 kk)
  · rcases stA_inv hs with ⟨x, r, rfl, h1, rfl⟩ | ⟨r, rfl, h1, rfl⟩
    · exact lv_astore hx hb hd hL.2 (by rw [← hL.1]; exact h1) rfl (st1_ok (v := .ref x) hL h1 kk)
    · exact lv_astoreN hx hb hd hL.2 (by rw [← hL.1]; exact h1) rfl (st1_ok (v := .null) hL h1 kk)
  · obtain ⟨x, h1, rfl⟩ := incI_inv hs
    have hk := (List.getElem?_eq_some_iff.mp h1).1
    obtain ⟨j, hj⟩ := List.getElem?_of_mem (LR.mem (G := G).mpr ⟨_, h1, by simp, rfl⟩)
    exact lv_iinc hx hb hd hL.2 hj rfl (by rw [← hL.1]; exact hk) rfl (st1_ok (v := .int _) hL hk kk)
  · obtain ⟨x, y, r, rfl, rfl⟩ := binI_inv hs; exact lv_iadd hx hb hd (kk ls hL)
  · obtain ⟨x, y, r, rfl, rfl⟩ := binI_inv hs; exact lv_isub hx hb hd (kk ls hL)
  · obtain ⟨x, y, r, rfl, rfl⟩ := binI_inv hs; exact lv_imul hx hb hd (kk ls hL)
  · obtain ⟨x, y, r, rfl, rfl⟩ := binI_inv hs; exact lv_iand hx hb hd (kk ls hL)
  · obtain ⟨x, y, r, rfl, rfl⟩ := binI_inv hs; exact lv_ior hx hb hd (kk ls hL)
  · obtain ⟨x, y, r, rfl, rfl⟩ := binI_inv hs; exact lv_ixor hx hb hd (kk ls hL)
  · obtain ⟨x, y, r, rfl, rfl⟩ := binI_inv hs; exact lv_ishl hx hb hd (kk ls hL)
  · obtain ⟨x, y, r, rfl, rfl⟩ := binI_inv hs; exact lv_ishr hx hb hd (kk ls hL)
  · obtain ⟨x, y, r, rfl, rfl⟩ := binI_inv hs; exact lv_iushr hx hb hd rfl (kk ls hL)
  · obtain ⟨x, y, r, rfl, hy, rfl⟩ := dvI_inv hs; exact lv_idiv hx hb hd hy (kk ls hL)
  · obtain ⟨x, y, r, rfl, hy, rfl⟩ := dvI_inv hs; exact lv_irem hx hb hd hy (kk ls hL)
  · obtain ⟨x, r, rfl, rfl⟩ := unI_inv hs; exact lv_ineg hx hb hd (kk ls hL)
  · obtain ⟨x, r, rfl, rfl⟩ := unI_inv hs; exact lv_i2l hx hb hd rfl (kk ls hL)
  · obtain ⟨x, r, rfl, rfl⟩ := unI_inv hs; exact lv_i2b hx hb hd rfl (kk ls hL)
  · obtain ⟨x, y, r, rfl, rfl⟩ := binL_inv hs; exact lv_ladd hx hb hd (kk ls hL)
  · obtain ⟨x, y, r, rfl, rfl⟩ := binL_inv hs; exact lv_lsub hx hb hd (kk ls hL)
  · obtain ⟨x, y, r, rfl, rfl⟩ := binL_inv hs; exact lv_lmul hx hb hd (kk ls hL)
  · obtain ⟨x, y, r, rfl, hy, rfl⟩ := dvL_inv hs; exact lv_ldiv hx hb hd hy (kk ls hL)
  · obtain ⟨x, y, r, rfl, hy, rfl⟩ := dvL_inv hs; exact lv_lrem hx hb hd hy (kk ls hL)
  · obtain ⟨x, y, r, rfl, rfl⟩ := cmpL_inv hs; exact W.lcmp hx hb hd (kk ls hL)
  · obtain ⟨v, r, rfl, hv, rfl⟩ := dupO_inv hs; exact lv_dup hx hb hd (by rw [tv_cat]; exact hv) (kk ls hL)
  · obtain ⟨v, u, r, rfl, hv, hu, rfl⟩ := dup2O_inv hs; exact lv_dup2_11 hx hb hd (by rw [tv_cat]; exact hv) (by rw [tv_cat]; exact hu) (kk ls hL)
  · obtain ⟨v, r, rfl, hv, rfl⟩ := popO_inv hs; exact lv_pop hx hb hd (by rw [tv_cat]; exact hv) (kk ls hL)
  · cases hs
end SOP
