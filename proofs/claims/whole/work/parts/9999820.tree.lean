/-! ===== programs: what the small machine does, the real one does ===== -/
def chk (lfc : List Nat → Nat → Instr → List Nat → Option Nat) : AT → List Nat → Nat → Option Nat
  | .leaf q, Ls, pc => lfc Ls pc q.1 q.2
  | .branch k a b, Ls, pc => if k = 0 then (match chk lfc a Ls pc with
      | some mid => chk lfc b Ls mid
      | none => none) else if k % 2 = 1 then (match chk lfc a (k / 2 :: Ls) pc with
      | some nx => if nx = k / 2 then some nx else none
      | none => none) else if pc + 1 = k / 2 then chk lfc a (pc :: Ls) pc else none
section TREE
variable {p : Program} {l : Launch} {e : Env} {s : State} {m : MethodId} {args : Array Value} {below : List Frame} {meth : Method} {c : Code}
variable {G : GG} {cc : ByteArray} {o nL d : Nat} {h0 hf : AH} {rf : Option Value ⊕ Nat} {rt : Option FieldType} {cs : List (Nat × Nat)}
variable {mI : Nat → Option CI} {th : Nat → Bool} {wr : Bool} {Lt : Nat → Prop} {P : MT} {lfc : List Nat → Nat → Instr → List Nat → Option Nat}
theorem tree_ok (C : CX G p s m args c cc o) (hml : c.maxLocals = nL) (hret : meth.sig.returnType = rt) (hlocks : meth.locks = false) (hr0 : HR G h0 s.heap) (hd : 7 ≤ d) (hst : l.stackTraces = false) (hout : wr = false → ∀ x ∈ c.exceptionTable.toList, False) (hcs : wr = false → cs = []) (hJ : JS l G) (hTH : TH p l e s m args below meth c G nL d h0 hf rf cs cc Lt)
    (hlfc : ∀ Ls pc i ds nx, lfc Ls pc i ds = some nx → LX s args meth cc mI th o rt wr Ls pc i ds nx ∧ (isCallI i = true → Lt pc)) :
    ∀ (n : Nat), (∀ k, k < n → CallsOK l G mI th d (callB P (run P k) d)) → ∀ (t : AT) (Ls : List Nat) (pc nx : Nat) (st : AS) (q : AO × AS), chk lfc t Ls pc = some nx → run P n d t st = some q → KT p l e s m args below meth c G nL d h0 hf rf cs Ls nx q → WS p l e s m args below meth c G nL d h0 hf rf pc st
  | 0, _, _, _, _, _, _, _, _, he, _ => by cases he
  | n + 1, hC, .leaf (i, ds), Ls, pc, nx, st, q, hc, he, hK => by
    rw [run_leaf] at he
    obtain ⟨hX, hLt⟩ := hlfc Ls pc i ds nx hc
    exact leaf_ok C hml hret hlocks hr0 hd hst hout hcs hJ (hC n (Nat.lt_succ_self n)) hTH hLt hX he hK
  | n + 1, hC, .branch k a b, Ls, pc, nx, st, q, hc, he, hK => by
    have ih := tree_ok C hml hret hlocks hr0 hd hst hout hcs hJ hTH hlfc n (fun k hk => hC k (Nat.lt_succ_of_lt hk))
    rw [run_branch] at he
    have hc0 := hc
    unfold chk at hc
    by_cases hk0 : k = 0
    · rw [if_pos hk0] at he hc
      split at hc
      · rename_i mid hmid
        rcases seqR_inv he with ⟨st1, h1, h2⟩ | ⟨h1, h2⟩
        · refine ih a Ls pc mid st _ hmid h1 ⟨(run_le n d b st1 q h2).tr hK.1, fun _ => ih b Ls mid nx st1 q hc h2 hK, (fun k t z => by cases z), (fun r z => by cases z)⟩
        · exact ih a Ls pc mid st q hmid h1 ⟨hK.1, fun z => absurd z h2, hK.2.2.1, hK.2.2.2⟩
      · cases hc
    · rw [if_neg hk0] at he hc
      by_cases hk1 : k % 2 = 1
      · rw [if_pos hk1] at he hc
        split at hc
        · rename_i nx' hnx
          split at hc
          · rename_i hE
            cases hc
            rcases blkR_inv he with ⟨j, st1, h1, rfl⟩ | ⟨h1, h2⟩
            · refine ih a (k / 2 :: Ls) pc nx st _ hnx h1 ⟨hK.1, (fun z => by cases z), fun j' t z hz => ?_, (fun r z => by cases z)⟩
              have z : j' = j := by
                have := Sum.inl.inj z
                omega
              subst z
              cases j' with
              | zero =>
                have : k / 2 = t := Option.some.inj hz
                rw [← this, ← hE]
                exact hK.2.1 rfl
              | succ j' => exact hK.2.2.1 j' t rfl hz
            · exact ih a (k / 2 :: Ls) pc nx st q hnx h1 ⟨hK.1, hK.2.1, fun j t z => absurd z (h2 j), hK.2.2.2⟩
          · cases hc
        · cases hc
      · rw [if_neg hk1] at he hc
        split at hc
        · rename_i hpc
          rcases lopR_inv he with ⟨st1, h1, h2⟩ | ⟨j, st1, h1, rfl⟩ | ⟨h1, h2⟩
          · refine ih a (pc :: Ls) pc nx st _ hc h1 ⟨(run_le n d _ st1 q h2).tr hK.1, (fun z => by cases z), fun j' t z hz => ?_, (fun r z => by cases z)⟩
            have z : j' = 0 := by
              have := Sum.inl.inj z
              omega
            subst z
            have : pc = t := Option.some.inj hz
            rw [← this]
            exact ih (.branch k a b) Ls pc nx st1 q hc0 h2 hK
          · refine ih a (pc :: Ls) pc nx st _ hc h1 ⟨hK.1, (fun z => by cases z), fun j' t z hz => ?_, (fun r z => by cases z)⟩
            have z : j' = j + 1 := by
              have := Sum.inl.inj z
              omega
            subst z
            exact hK.2.2.1 j t rfl hz
          · exact ih a (pc :: Ls) pc nx st q hc h1 ⟨hK.1, hK.2.1, fun j t z => absurd z (h2 j), hK.2.2.2⟩
        · cases hc
end TREE
/-! a method's start -/
theorem mkS_at : ∀ (args : List Value) (G : GG) (k i : Nat) (v : Value), (mkS args)[i]? = some v → v ≠ jk → (k + i, tv G v) ∈ lv_args k (args.map (tv G))
  | [], _, _, _, _, h, _ => by cases h
  | a :: t, G, k, i, v, h, hv => by
    have h : ((if a.category = 2 then [a, jk] else [a]) ++ mkS t)[i]? = some v := h
    show (k + i, tv G v) ∈ (k, tv G a) :: lv_args (if (tv G a).category = 2 then k + 2 else k + 1) (t.map (tv G))
    rw [tv_cat]
    by_cases hc : a.category = 2
    · rw [if_pos hc] at h ⊢
      match i, h with
      | 0, h => cases h; exact List.mem_cons_self
      | 1, h => exact absurd (Option.some.inj h).symm hv
      | i + 2, h =>
        have := mkS_at t G (k + 2) i v h hv
        rw [show k + 2 + i = k + (i + 2) by omega] at this
        exact List.mem_cons_of_mem _ this
    · rw [if_neg hc] at h ⊢
      match i, h with
      | 0, h => cases h; exact List.mem_cons_self
      | i + 1, h =>
        have := mkS_at t G (k + 1) i v h hv
        rw [show k + 1 + i = k + (i + 1) by omega] at this
        exact List.mem_cons_of_mem _ this
theorem mkS_len (args : List Value) (G : GG) : (lg_sl (args.map (tv G))).length = (mkS args).length := by
  induction args with
  | nil => rfl
  | cons a t ih =>
    show ((if (tv G a).category = 2 then [Slot.val (tv G a), Slot.second] else [Slot.val (tv G a)]) ++ lg_sl (t.map (tv G))).length = ((if a.category = 2 then [a, jk] else [a]) ++ mkS t).length
    rw [tv_cat, List.length_append, List.length_append, ih]
    by_cases hc : a.category = 2
    · rw [if_pos hc, if_pos hc]; rfl
    · rw [if_neg hc, if_neg hc]; rfl
theorem LR.entry {G : GG} {args : List Value} {n : Nat} (h : (mkS args).length ≤ n) : LR G ((lg_sl (args.map (tv G)) ++ List.replicate (n - (lg_sl (args.map (tv G))).length) Slot.unset).toArray) n (mkL args n) := by
  have hl := lv_entry (args.map (tv G)) (n := n) (by rw [mkS_len]; exact h)
  refine ⟨by simp [mkL]; omega, hl.1, hl.2.1, fun q hq => hl.2.2 q ?_⟩
  obtain ⟨i, u⟩ := q
  obtain ⟨v, h1, h2, rfl⟩ := LR.mem.mp hq
  unfold mkL at h1
  by_cases hi : i < (mkS args).length
  · rw [List.getElem?_append_left hi] at h1
    have := mkS_at args G 0 i v h1 h2
    rwa [Nat.zero_add] at this
  · rw [List.getElem?_append_right (by omega), List.getElem?_replicate] at h1
    split at h1
    · exact absurd (Option.some.inj h1).symm h2
    · cases h1
set_option maxHeartbeats 4000000 in
/-- a method without a table of its own -/
theorem meth_ok {l : Launch} {G : GG} {mI : Nat → Option CI} {th : Nat → Bool} {P : MT} {q : CI} {o d n : Nat} {body : AT} {as : List Value} {h h' : AH} {r : Option Value ⊕ Nat} {loc stk : AL} {nx : Nat} {lfc : List Nat → Nat → Instr → List Nat → Option Nat}
    (hh9 : hhOf q.1 = none) (hG : GOK G) (hst : l.stackTraces = false) (hJ : JS l G) (hd : 7 ≤ d) (hcls : q.1.cls = cn o) (hpl : plainName (cn o) = true) (hS : (mkS as).length ≤ q.2.2.1)
    (hlx : ∀ (s : State) (args : Array Value) (meth : Method), (∀ w ∈ gw, w.before args s = true) → Bas G s → meth.name = q.1.name → ∀ Ls pc i ds nx, lfc Ls pc i ds = some nx → LX s args meth q.2.1 mI th o q.2.2.2 false Ls pc i ds nx)
    (hC : ∀ k, k < n → CallsOK l G mI th d (callB P (run P k) d)) (hc : chk lfc body [] 0 = some nx) (hr : run P n d body (mkL as q.2.2.1, [], h) = some (.inr r, (loc, stk, h'))) : MC l G q d as h r h' := by
  obtain ⟨y, bytes, mx, ret⟩ := q
  unfold MC
  rw [cwd_none hh9]
  refine vx_ofW (cc := bytes) (maxL := mx) (ret := ret) (by show plainName y.cls = true; rw [show y.cls = cn o from hcls]; exact hpl) rfl ?_
  intro p e s m args below meth c s₁ B hml htab hv
  obtain ⟨rfl, hr0, hB⟩ := hv
  have hts0 := atoms_spec (ws := Cond.code y bytes mx ret :: gw) B.pre
  have hts : ∀ w ∈ gw, w.before ((as.map (tv G)).toArray) s = true := fun w hw => hts0 w (List.mem_cons_of_mem _ hw)
  have hown : s.vm.findClass (cn o) = some m.cls := by rw [← show y.cls = cn o from hcls]; exact findClass_of_methodNamed B.named
  have C : CX G p s m ((as.map (tv G)).toArray) c bytes o := ⟨B.exec, B.bytes, hown, hts, hB, hG⟩
  have hnm : meth.name = y.name := (name_of_methodNamed B.named B.method).1
  have g3 : hle h h' := run_le n d body _ _ hr
  have hTH : TH p l e s m ((as.map (tv G)).toArray) below meth c G mx d h h' r [] bytes (fun _ => True) := by
    intro E loc rest pc ls H locs a ce _ hrf _ hL hH hl hce hcv hcl
    exact vx_out (fun x hx => (htab x hx).elim) B.notSynchronized hce hcv hcl (fun t ht _ => ⟨⟨E, hrf, rfl⟩, by rw [ht]; exact hH⟩) hl (Nat.le_refl _) (Nat.le_refl _)
  have K := tree_ok (rt := ret) (wr := false) (P := P) (lfc := lfc) C hml B.returns B.notSynchronized hr0 hd hst (fun _ => htab) (fun _ => rfl) hJ hTH (fun Ls pc i ds nx z => ⟨hlx s _ meth hts hB hnm Ls pc i ds nx z, fun _ => trivial⟩) n hC body [] 0 nx (mkL as mx, [], h) _ hc hr ⟨hle.rf _, (fun z => by cases z), (fun k t z => by cases z), fun r' z => by
    have z := Sum.inr.inj z
    subst z
    exact ⟨by cases r <;> rfl, rfl⟩⟩
  have K2 := K (hle.rf _) g3 _ s.heap [] (LR.entry hS) hr0 (fun z hz => nomatch hz)
  rw [lg_entry_eq]
  exact W.ofEq (by show 0 = h.2.1 - h.2.1; omega) (by show 0 = h.2.2 - h.2.2; omega) K2
