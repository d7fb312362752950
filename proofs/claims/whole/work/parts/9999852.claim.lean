/-! ===== the claim out of the small machine's run ===== -/
def h00 (L : Nat) (xs : Nat → Int32) : AH := (fun k => if k = 2000000 then .inl (77, L, .inl xs) else .inr (99, []), 0, 0)
/-- what is left: the small machine comes to the law's end with 1, on every script, within its room -/
def LawRuns : Prop := ∀ (L : Nat) (xs : Nat → Int32), L ≤ 4608 → ∃ (n : Nat) (loc stk : AL) (hf : AH), run PP n 1312 t_L_law_ (mkL [.ref 2000000] 8, [], h00 L xs) = some (.inr (.inl (some (.int 1))), (loc, stk, hf)) ∧ hf.2.1 ≤ 601024 ∧ hf.2.2 ≤ 7293034
theorem room_mono {s : State} {pl : Platform} {R R' : Room} (h1 : R'.frames ≤ R.frames) (h2 : R'.cells ≤ R.cells) (h3 : R'.slots ≤ R.slots) (h4 : R'.locals ≤ R.locals) (h : s.hasRoom pl R = true) : s.hasRoom pl R' = true := by
  simp only [State.hasRoom, Bool.and_eq_true, decide_eq_true_eq] at h ⊢
  obtain ⟨⟨⟨⟨g1, g2, g3, g4, g5, g6⟩, g7⟩, g8⟩, g9⟩ := h
  exact ⟨⟨⟨⟨by omega, by omega, by omega, by omega, by omega, g6⟩, by omega⟩, by omega⟩, g9⟩
set_option maxHeartbeats 4000000 in
theorem whole_start (hrun : LawRuns) {p : Program} {e : Env} {s : State} {m : MethodId} {below : List Frame} {meth : Method} {c : Code} (l : Launch) (hst : l.stackTraces = false) {b L : Nat} {xs : Nat → Int32} (hL : L ≤ 4608) (C0 : lw_At p s m meth c b L xs) : W p l e room_1 s m #[Value.ref b] below meth c s.heap [] 0 0 (lw_Z below #[Value.ref b] s) (entryFrame m ([Value.ref b] : List Value).toArray 8) := by
  obtain ⟨G, hG, hB, hgb, hgH, hgL, hgX, hgr⟩ := start_bas C0
  obtain ⟨hx, hb, hr, hml, hown, hts, hX, hbl, hlk, hgv⟩ := C0
  have hgw : ∀ w ∈ gw, w.before #[Value.ref b] s = true := fun w hw => hts w (List.mem_filter.mp hw).1
  have C : CX G p s m #[Value.ref b] c code 11 := ⟨hx, hb, hown, hgw, hB, hG⟩
  obtain ⟨n, loc, stk, hf, hrn, hc1, hc2⟩ := hrun L xs hL
  obtain ⟨nx, hnx⟩ := Option.isSome_iff_exists.mp law_chk
  have hr0 : HR G (h00 L xs) s.heap := by
    refine ⟨hgb.symm, Nat.zero_le _, fun q _ => by rw [hgH], ?_, fun k hk => absurd hk (Nat.not_lt_zero k)⟩
    have e0 : (h00 L xs).1 2000000 = .inl (77, L, .inl xs) := by simp [h00]
    rw [e0, hgL, hgX]
  have g3 : hle (h00 L xs) hf := run_le n 1312 t_L_law_ _ _ hrn
  have hTH : TH p l e s m #[Value.ref b] below meth c G 8 1312 (h00 L xs) hf (.inl (some (.int 1))) [] code (fun _ => True) := by
    intro E loc rest pc ls H locs a ce _ hrf
    cases hrf
  have K := tree_ok (rt := some .boolean) (wr := true) (P := PP) (lfc := lfB code 11 (some .boolean) false true) C hml hr hlk hr0 (by decide) hst (fun z => by cases z) (fun z => by cases z) (jsOK hst G) hTH (fun Ls pc i ds nx z => ⟨lfB_spec hgw hB (fun z => by cases z) z, fun _ => trivial⟩) n (fun k _ => calls_ok hG hst k 1311) t_L_law_ [] 0 nx _ _ hnx hrn ⟨hle.rf _, (fun z => by cases z), (fun k t z => by cases z), fun r' z => by
    have z := Sum.inr.inj z
    subst z
    exact ⟨rfl, rfl⟩⟩
  have ea : ([Value.ref b] : List Value) = ([Value.ref 2000000] : List Value).map (tv G) := by
    show [Value.ref b] = [Value.ref (gr G 2000000)]
    rw [hgr]
  have K2 := K (hle.rf _) g3 _ s.heap [] (LR.entry (args := [.ref 2000000]) (by decide)) hr0 (fun z hz => nomatch hz)
  have e9 : entryFrame m ([Value.ref b] : List Value).toArray 8 = F0 m 0 ((lg_sl (([Value.ref 2000000] : List Value).map (tv G)) ++ List.replicate (8 - (lg_sl (([Value.ref 2000000] : List Value).map (tv G))).length) Slot.unset).toArray) [] := by
    rw [ea]
    exact lg_entry_eq m _ 8
  rw [e9]
  intro T hT X
  have X2 : Stand p l e (rm 1312 (hf.2.1 - (h00 L xs).2.1) (hf.2.2 - (h00 L xs).2.2)) s m #[Value.ref b] below meth c T [] ((h00 L xs).2.1 - (h00 L xs).2.1) ((h00 L xs).2.2 - (h00 L xs).2.2) :=
    { X with room := room_mono (by show 1312 ≤ 2048; omega) (by show hf.2.1 - 0 ≤ 601024; omega) (by show hf.2.2 - 0 ≤ 7293034; omega) (by show 64 * 1312 ≤ 84000; omega) X.room }
  obtain ⟨t, t1, o, t2, t3, t4⟩ := K2 T hT X2
  refine ⟨t, t1, o, t2, t3, ?_⟩
  rcases t4 with ⟨⟨⟨v, hv, ho⟩, hH⟩, Lc, ⟨u1, u2, u3⟩, hLc⟩ | ⟨a, -, E, ce, Lc, ⟨⟨k, hk, -⟩, -⟩, -⟩
  · cases hv
    refine ⟨ho, u1, u2, u3.weaken (fun y hy hlt => ?_) (by show hf.2.1 - 0 ≤ 601024; omega) (by show hf.2.2 - 0 ≤ 7293034; omega)⟩
    exfalso
    have h9 : gb G ≤ y.base := hLc y hy
    rw [hgb] at h9
    exact absurd hlt (Nat.not_lt.mpr h9)
  · cases hk
set_option maxHeartbeats 4000000 in
theorem lw_walk (hrun : LawRuns) (l : Launch) (hst : l.stackTraces = false) (b : Addr) (xs : List Int32) : MetFree l x (headSpec (Jvm.Cond.code x code maxLocals ret :: tables_1) room_1) (lw_P b xs) (fun _ _ _ _ _ => True) lw_Q := by
  refine MetFree.of_bodyS (code := code) (maxLocals := maxLocals) (ret := ret) (by decide) ?_ ?_
  · intro args s m h hn
    obtain ⟨meth, c, h1, h2, h3, h4, h5, h6, -, -⟩ := Cond.code_spec hn (atoms_spec (ws := Jvm.Cond.code x code maxLocals ret :: tables_1) h _ List.mem_cons_self)
    exact ⟨meth, c, h1, h2, h3, h4, h5, h6⟩
  · intro p e s m args below meth c s₁ B hml0 hP _
    obtain ⟨rfl, hx, hbd, hgv⟩ := hP
    obtain ⟨scr, harrAt, hlist, hof, hsmall⟩ := hx
    obtain ⟨hcb, hkn, -, -⟩ := State.arrayAt?_spec harrAt
    have hown : s.vm.findClass R_law = some m.cls := findClass_of_methodNamed B.named
    have hts0 : ∀ c ∈ (Jvm.Cond.code x code maxLocals ret :: tables_1), c.before #[Value.ref b] s = true := atoms_spec (ws := Jvm.Cond.code x code maxLocals ret :: tables_1) B.pre
    have hts : ∀ w ∈ lw_tbl, w.before #[Value.ref b] s = true := k2_hts_sels lw_privs (fun w hw => hts0 w (List.mem_cons_of_mem _ hw)) lw_privs_ok
    have hml : c.maxLocals = 8 := B.maxLocals_eq (hts0 _ List.mem_cons_self)
    have X₀ : Stand p l e room_1 s m #[Value.ref b] below meth c s₁ [] 0 0 := Stand.of_body B
    have hh0 : s₁.heap = s.heap := by rw [B.state]; rfl
    have hsz : scr.slots.size = xs.length := by rw [← Array.length_toList, hlist, List.length_map]
    have hval : ∀ j : Nat, j < xs.length → scr.slots[j]? = some (.int (xs.getD j 0)) := fun j hj => by
      rw [← Array.getElem?_toList, hlist]
      simp [hj]
    have hbl : b < s.heap.size := (Array.getElem?_eq_some_iff.mp hcb).1
    have hX : va_X b xs.length (fun j => xs.getD j 0) s s.heap := ⟨scr, hcb, hof, hkn, hsz, hval⟩
    have K : W p l e room_1 s m #[Value.ref b] below meth c s₁.heap [] 0 0 (lw_Z below #[Value.ref b] s) (entryFrame m ([Value.ref b] : List Value).toArray 8) := by
      rw [hh0]
      exact whole_start hrun l hst hbd ⟨B.exec, B.bytes, B.returns, hml, hown, hts, hX, hbl, B.notSynchronized, hgv⟩
    obtain ⟨t, a1, o, b1, b2, b3⟩ := K s₁ rfl X₀
    exact ⟨t, o, a1, b1, b2, b3⟩
theorem lw_pre_spec {args : Array Value} {s : State} (h : (Jvm.Cond.and given_1 narrow_1).before args s = true) (hr : rest_1_c.before args s = true) : ∃ (b : Addr) (xs : List Int32), lw_P b xs args s := by
  have hs := flat_of_before _ h
  have hq := flat_of_before _ hr
  have hc : (Cond.count 1).before args s = true := hs _ (by decide +kernel)
  have harr : (Cond.arrayOf (.arg 0) .int).before args s = true := hs _ (by decide +kernel)
  have hle : (Cond.le (.length (.arg 0)) (.int 4608)).before args s = true := hs _ (by decide +kernel)
  have hlen : (Cond.isInt (.length (.arg 0))).before args s = true := hq _ (by decide +kernel)
  have hall : (Cond.all (.arg 0) (.isInt (.elem (.arg 0) (.index 0)))).before args s = true := hq _ (by decide +kernel)
  obtain ⟨b, xs, hb, hx⟩ := State.ints_of_pre rfl harr hlen hall
  have hsm : xs.length < 2 ^ 31 := hx.choose_spec.2.2.2
  have hev : (Term.length (.arg 0)).eval args s none [] s = some (.int xs.length.toInt32) := hx.length_eval hb
  have hv := Cond.le_ints hev (show (Term.int 4608).eval args s none [] s = some (.int 4608) from rfl)
  have hd : xs.length.toInt32 ≤ 4608 := by
    simpa [Cond.before, Cond.holds, hv] using hle
  have hN : xs.length ≤ 4608 := (Int32.ofNat_le_ofNat hsm (by decide)).mp (show Int32.ofNat xs.length ≤ Int32.ofNat 4608 from hd)
  exact ⟨b, xs, Cond.one_arg hc (show args[0]? = some (.ref b) from hb), hx, hN, h⟩
theorem lw_comes (hrun : LawRuns) (l : Launch) (hst : l.stackTraces = false) : Comes l x (Jvm.Cond.code x code maxLocals ret :: tables_1) room_1 (fun tb e args s => Calls_1 tb e args s ∧ rest_1 tb e args s ∧ Pre_1 tb e args s)
    (fun _ _ args s o t => lw_Q args s o t) := by
  intro p e ha hc hk s m args below hf hfit hheap happ hpre
  obtain ⟨b, xs, hP⟩ := lw_pre_spec hpre.2.2 hpre.2.1
  obtain ⟨k, o, h1, h2, h3, hQ⟩ := lw_walk hrun l hst b xs p e ha hc hk s m args below hf ((Spec.applies_iff_loose hf).mp happ).1 hP trivial
  exact ⟨k, o, h1, h2, h3, hQ⟩
theorem lw_frame {s t : State} {o : Outcome} {args : Array Value} (h : Framed s o t [] 601024 7293034) :
    Framed s o t (fieldLocs frame_1_writes args s ++ arrayLocs frame_1_arrays args s ++ staticLocs frame_1_statics s) 601024 7293034 := h
theorem lw_limb (hrun : LawRuns) (L : Cond) (hL : ∀ (args : Array Value) (s t : State), L.after args s (.returned (some (.int 1))) t = true) :
    ArmFor flags0 classFile x code maxLocals ret World_1 tables_1 room_1 Calls_1 rest_1 Pre_1
      (fun tb e a s o t => postC L tb e a s o t ∧ Framed s o t (fieldLocs frame_1_writes a s ++ arrayLocs frame_1_arrays a s ++ staticLocs frame_1_statics s) 601024 7293034) := by
  intro l hfl _ _ p e ha hc hk s m args below hf hfit hheap happ hpre
  obtain ⟨k, o, h1, h2, h3, rfl, hF⟩ := lw_comes hrun l (by unfold Launch.stackTraces; rw [hfl]; decide) p e ha hc hk s m args below hf hfit hheap happ hpre
  exact ⟨k, _, h1, h2, h3, hL args s _, lw_frame hF⟩
theorem claim_of (hrun : LawRuns) : Claimed_1_1 ∧ Claimed_1_2 := ⟨lw_limb hrun limb_1_1 (fun args s t => by simp [limb_1_1, Cond.after, Cond.holds, Cond.value]), lw_limb hrun limb_1_2 (fun args s t => Cond.after_iff.mpr (by
  first | (rw [show limb_1_2 = Cond.eq .result (.int 1) from rfl, Cond.eq_ints (x := 1) (y := 1) rfl rfl]; simp; done) | (simp [limb_1_2, Cond.value, Term.eval]; done)))⟩
