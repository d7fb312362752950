/-! ===== the law's methods that catch ===== -/
def hdB (b : ByteArray) (nL hp k : Nat) : Bool := decide (Int32.ofInt (k : Int) = Int32.ofNat k) && (match decode b hp with
  | .ok (.astore_n j, 1) => decide ((j : Nat) < nL) && decide (decode b (hp + 1) = .ok (.iconst (k : Int), 1)) && decide (decode b (hp + 1 + 1) = .ok (.ireturn, 1))
  | .ok (.astore j, 2) => decide (j < nL) && decide (decode b (hp + 2) = .ok (.iconst (k : Int), 1)) && decide (decode b (hp + 2 + 1) = .ok (.ireturn, 1))
  | _ => false)
def wrT (b : ByteArray) (nL e : Nat) (hh : List (Nat × Nat × Nat × Nat)) (cs : List (Nat × Nat)) : Bool := match hh, cs with
  | [(0, e1, hp, 13)], [(1, k)] => decide (e1 = e) && hdB b nL hp k
  | [(0, e1, hp, 31)], [(0, k)] => decide (e1 = e) && hdB b nL hp k
  | [(0, e1, hp, 31), (0, e2, hp2, 13)], [(0, k), (1, k2)] => decide (e1 = e) && decide (e2 = e) && hdB b nL hp k && hdB b nL hp2 k2
  | _, _ => false
def endOf (hh : List (Nat × Nat × Nat × Nat)) : Nat := match hh with
  | (_, e, _) :: _ => e
  | [] => 0
def lfW (b : ByteArray) (o : Nat) (rt : Option FieldType) (e : Nat) (Ls : List Nat) (pc : Nat) (i : Instr) (ds : List Nat) : Option Nat := if isCallI i = true ∧ ¬ pc < e then none else lfB b o rt false true Ls pc i ds
def wChk (y : Nat) : Bool := match mWL[y]?, PP y with
  | some (wc, _, _, _, o, _), some (n, body, cs, th) => (match ciOf lw_tbl[wc]? with
    | some q => (match hhOf q.1 with
      | some hh => decide (q.2.2.1 = n) && decide (th = false) && plainName (cn o) && decide (o = 11) && decide (q.2.2.2 = some .int) && wrT q.2.1 n (endOf hh) hh cs && (chk (lfW q.2.1 o q.2.2.2 (endOf hh)) body [] 0).isSome
      | none => false)
    | none => false)
  | _, _ => false
theorem wr_c1 : inT (Cond.castable "java/lang/IllegalArgumentException" "java/lang/IllegalArgumentException") = true := by decide +kernel
theorem wr_c0 : inT (Cond.castable "java/util/NoSuchElementException" "java/util/NoSuchElementException") = true := by decide +kernel
theorem wr_k1 : Cond.classLink RL 13 "java/lang/IllegalArgumentException" ∈ gw := gw_in (by decide +kernel) rfl
theorem wr_k0 : Cond.classLink RL 31 "java/util/NoSuchElementException" ∈ gw := gw_in (by decide +kernel) rfl
section WRAP
variable {p : Program} {l : Launch} {e : Env} {R : Room} {s : State} {m : MethodId} {args : Array Value} {below : List Frame} {meth : Method} {c : Code} {H : Heap} {locs : List Loc} {cells slots : Nat}
variable {G : GG} {cc : ByteArray} {hf : AH} {XC : String → State → State → Prop}
theorem hand_ok {nL hp k : Nat} {ls : Array Slot} {lv : List (Nat × Value)} {a : Nat} (hx : p.tables.exec = Jvm.exec) (hb : c.code = cc) (hret : meth.sig.returnType = some .int) (hlk : meth.locks = false) (hL : lv_has ls nL lv) (hH : HR G hf H) (hl : ∀ z ∈ locs, gb G ≤ z.base) (hd : hdB cc nL hp k = true) :
    W p l e R s m args below meth c H locs cells slots (vx_MQ below (Qcs G (.inl (some (.int (Int32.ofNat k)))) hf) XC args s cells slots (gF G)) (F0 m hp ls [.ref a]) := by
  have fin : ∀ (pc : Nat) (ls' : Array Slot), decode cc pc = .ok (.iconst (k : Int), 1) → decode cc (pc + 1) = .ok (.ireturn, 1) → Int32.ofInt (k : Int) = Int32.ofNat k → W p l e R s m args below meth c H locs cells slots (vx_MQ below (Qcs G (.inl (some (.int (Int32.ofNat k)))) hf) XC args s cells slots (gF G)) (F0 m pc ls' []) := by
    intro pc ls' h1 h2 h3
    exact lv_iconst hx hb h1 h3 (vx_ret (W.iret hx hb hret (fun t ht _ => ⟨⟨_, rfl, rfl⟩, by rw [ht]; exact hH⟩) hl h2))
  unfold hdB at hd
  simp only [Bool.and_eq_true, decide_eq_true_eq] at hd
  obtain ⟨hk, hd⟩ := hd
  split at hd
  · rename_i j hj
    simp only [Bool.and_eq_true, decide_eq_true_eq] at hd
    exact lv_astore_n hx hb hj rfl hL hd.1.1 rfl (fun ls' _ => fin _ ls' hd.1.2 hd.2 hk)
  · rename_i j hj
    simp only [Bool.and_eq_true, decide_eq_true_eq] at hd
    exact lv_astore hx hb hj hL hd.1.1 rfl (fun ls' _ => fin _ ls' hd.1.2 hd.2 hk)
  · cases hd
end WRAP
theorem lfW_spec {G : GG} {s : State} {args : Array Value} {meth : Method} {cc : ByteArray} {o e : Nat} {rt : Option FieldType} {Ls : List Nat} {pc : Nat} {i : Instr} {ds : List Nat} {nx : Nat} (hts : ∀ w ∈ gw, w.before args s = true) (hB : Bas G s) (h : lfW cc o rt e Ls pc i ds = some nx) : LX s args meth cc mI thP o rt true Ls pc i ds nx ∧ (isCallI i = true → pc < e) := by
  unfold lfW at h
  split at h
  · cases h
  · rename_i hc
    exact ⟨lfB_spec hts hB (fun z => by cases z) h, fun z => Classical.byContradiction fun w => hc ⟨z, w⟩⟩
set_option maxHeartbeats 4000000 in
theorem wr_TH {p : Program} {l : Launch} {e : Env} {s : State} {m : MethodId} {args : Array Value} {below : List Frame} {meth : Method} {c : Code} {G : GG} {nL d e9 : Nat} {h0 hf : AH} {rf : Option Value ⊕ Nat} {cs : List (Nat × Nat)} {cc : ByteArray} {hh : List (Nat × Nat × Nat × Nat)}
    (hx : p.tables.exec = Jvm.exec) (hb : c.code = cc) (hown : s.vm.findClass RL = some m.cls) (hts : ∀ w ∈ gw, w.before args s = true) (hB : Bas G s) (hret : meth.sig.returnType = some .int) (hlk : meth.locks = false) (htab : c.exceptionTable.toList = tableOf hh) (hv : ∃ v, rf = .inl v) (hT : wrT cc nL e9 hh cs = true) :
    TH p l e s m args below meth c G nL d h0 hf rf cs cc (fun pc => pc < e9) := by
  intro E loc rest pc ls H locs a ce hLt hrf _ hL hH hl hce hcv hcl
  obtain ⟨v, hv⟩ := hv
  have hLt : pc < e9 := hLt
  have cov : ∀ hp k, covers ⟨0, e9, hp, k⟩ pc = true := fun hp k => by simp [covers, hLt]
  have go1 : ∀ (hp k : Nat) (pre suf : List ExceptionTableEntry), c.exceptionTable.toList = pre ++ ⟨0, e9, hp, 13⟩ :: suf → (∀ z ∈ pre, covers z pc = false ∨ (z.catchType ≠ 0 ∧ ∃ nm : String, (Cond.classLink RL z.catchType nm).before args s = true ∧ va_Nc "java/lang/IllegalArgumentException" nm s)) → E = 1 → rf = .inl (some (.int (Int32.ofNat k))) → hdB cc nL hp k = true →
      vx_W p l e (rm d (hf.2.1 - h0.2.1) (hf.2.2 - h0.2.2)) s m args below meth c H locs (hf.2.1 - h0.2.1) (hf.2.2 - h0.2.2) (QF below args s G h0 hf rf) (F0 m pc ls (rest.map (tv G))) a := by
    intro hp k pre suf hs hpass hE hr2 hd
    subst hE
    rw [hr2]
    exact vx_catch (E := "java/lang/IllegalArgumentException") hown pre ⟨0, e9, hp, 13⟩ suf hs hpass (cov hp 13) (show (13 : Nat) ≠ 0 by decide) (hts _ wr_k1) (inT_at hts hB wr_c1) hce hcv hcl (hand_ok hx hb hret hlk hL.2 hH hl hd)
  have go0 : ∀ (hp k : Nat) (suf : List ExceptionTableEntry), c.exceptionTable.toList = ⟨0, e9, hp, 31⟩ :: suf → E = 0 → rf = .inl (some (.int (Int32.ofNat k))) → hdB cc nL hp k = true →
      vx_W p l e (rm d (hf.2.1 - h0.2.1) (hf.2.2 - h0.2.2)) s m args below meth c H locs (hf.2.1 - h0.2.1) (hf.2.2 - h0.2.2) (QF below args s G h0 hf rf) (F0 m pc ls (rest.map (tv G))) a := by
    intro hp k suf hs hE hr2 hd
    subst hE
    rw [hr2]
    exact vx_catch (E := "java/util/NoSuchElementException") hown [] ⟨0, e9, hp, 31⟩ suf hs (fun z hz => nomatch hz) (cov hp 31) (show (31 : Nat) ≠ 0 by decide) (hts _ wr_k0) (inT_at hts hB wr_c0) hce hcv hcl (hand_ok hx hb hret hlk hL.2 hH hl hd)
  unfold wrT at hT
  split at hT
  · rename_i e1 hp k
    simp only [Bool.and_eq_true, decide_eq_true_eq] at hT
    obtain ⟨rfl, hd⟩ := hT
    by_cases hE : E = 1
    · subst hE
      exact go1 hp k [] [] htab (fun z hz => nomatch hz) rfl hrf hd
    · have : rf = .inr E := by rw [hrf]; simp [ctch, List.lookup, beq_eq_false_iff_ne.mpr hE]
      rw [hv] at this
      cases this
  · rename_i e1 hp k
    simp only [Bool.and_eq_true, decide_eq_true_eq] at hT
    obtain ⟨rfl, hd⟩ := hT
    by_cases hE : E = 0
    · subst hE
      exact go0 hp k [] htab rfl hrf hd
    · have : rf = .inr E := by rw [hrf]; simp [ctch, List.lookup, beq_eq_false_iff_ne.mpr hE]
      rw [hv] at this
      cases this
  · rename_i e1 hp e2 hp2 k k2
    simp only [Bool.and_eq_true, decide_eq_true_eq] at hT
    obtain ⟨⟨⟨rfl, rfl⟩, hd⟩, hd2⟩ := hT
    by_cases hE : E = 0
    · subst hE
      exact go0 hp k _ htab rfl hrf hd
    · by_cases hE1 : E = 1
      · subst hE1
        refine go1 hp2 k2 [⟨0, e2, hp, 31⟩] [] htab (fun z hz => ?_) rfl hrf hd2
        rw [List.mem_singleton.mp hz]
        exact Or.inr ⟨show (31 : Nat) ≠ 0 by decide, _, hts _ wr_k0, hB.2.2.2.2.2.2.2.2.2.2.2⟩
      · have : rf = .inr E := by rw [hrf]; simp [ctch, List.lookup, beq_eq_false_iff_ne.mpr hE, beq_eq_false_iff_ne.mpr hE1]
        rw [hv] at this
        cases this
  · cases hT
set_option maxHeartbeats 4000000 in
theorem wr_mc {l : Launch} {G : GG} (hG : GOK G) (hst : l.stackTraces = false) (hJ : JS l G) (hw : ∀ y, (∃ q hh, mI y = some q ∧ hhOf q.1 = some hh) → wChk y = true)
    (n d y : Nat) (q : CI) (hh : List (Nat × Nat × Nat × Nat)) (as : List Value) (h : AH) (r : Option Value ⊕ Nat) (h' : AH) (hC : ∀ k, k < n → CallsOK l G mI thP d (callB PP (run PP k) d)) (hm : mI y = some q) (hq : hhOf q.1 = some hh) (hc : callB PP (run PP n) (d + 1) y as h = some (r, h')) : MC l G q d as h r h' := by
  have h1 := hw y ⟨q, hh, hm, hq⟩
  obtain ⟨nn, body, cs, th, r0, loc, stk, h9, hP, hS, hrun, hr, hth⟩ := callB_inv hc
  obtain ⟨wc, wk, ws, wi, o, np, g0, g1, g2, g3, g4, g5, g6, g7, g8⟩ := mI_spec hm
  unfold wChk at h1
  rw [hP, g0] at h1
  simp only [g1, hq, Bool.and_eq_true, decide_eq_true_eq] at h1
  obtain ⟨⟨⟨⟨⟨⟨k1, k2⟩, k3⟩, k4⟩, k5⟩, k6⟩, k7⟩ := h1
  obtain ⟨nx, hnx⟩ := Option.isSome_iff_exists.mp k7
  subst k4
  have hv : ∃ v, r = .inl v := by
    rcases hth with z | z
    · rw [k2] at z; cases z
    · exact z
  obtain ⟨yy, bytes, mx, ret⟩ := q
  have k5 : ret = some .int := k5
  have k1 : mx = nn := k1
  subst k5
  subst k1
  unfold MC
  rw [cwd_some hq]
  refine vx_ofWH (cc := bytes) (maxL := mx) (ret := some .int) (hh := hh) (by show plainName yy.cls = true; rw [show yy.cls = cn 11 from g6]; exact k3) rfl ?_
  intro p e s m args below meth c s₁ B hml hv9
  obtain ⟨rfl, hr0, hB⟩ := hv9
  have hts0 := atoms_spec (ws := Cond.codeWith yy bytes mx (some .int) hh :: gw) B.pre
  have hts : ∀ w ∈ gw, w.before ((as.map (tv G)).toArray) s = true := fun w hw => hts0 w (List.mem_cons_of_mem _ hw)
  have hown : s.vm.findClass (cn 11) = some m.cls := by rw [← show yy.cls = cn 11 from g6]; exact findClass_of_methodNamed B.named
  have C : CX G p s m ((as.map (tv G)).toArray) c bytes 11 := ⟨B.exec, B.bytes, hown, hts, hB, hG⟩
  have htab : c.exceptionTable.toList = tableOf hh := vx_table (x := yy) (cc := bytes) B (hts0 _ List.mem_cons_self)
  have e1 : d + 1 - 1 = d := by omega
  rw [e1] at hrun
  have g3 : hle h h' := run_le n d body _ _ hrun
  have hTH : TH p l e s m ((as.map (tv G)).toArray) below meth c G mx d h h' r cs bytes (fun pc => pc < endOf hh) := wr_TH B.exec B.bytes hown hts hB B.returns B.notSynchronized htab hv k6
  have K := tree_ok (rt := some .int) (wr := true) (P := PP) (lfc := lfW bytes 11 (some .int) (endOf hh)) C hml B.returns B.notSynchronized hr0 (by omega) hst (fun z => by cases z) (fun z => by cases z) hJ hTH (fun Ls pc i ds nx z => lfW_spec hts hB z) n hC body [] 0 nx (mkL as mx, [], h) _ hnx hrun ⟨hle.rf _, (fun z => by cases z), (fun k t z => by cases z), fun r' z => by
    have z := Sum.inr.inj z
    subst z
    exact ⟨hr, rfl⟩⟩
  have K2 := K (hle.rf _) g3 _ s.heap [] (LR.entry hS) hr0 (fun z hz => nomatch hz)
  rw [lg_entry_eq]
  exact W.ofEq (by show 0 = h.2.1 - h.2.1; omega) (by show 0 = h.2.2 - h.2.2; omega) K2
