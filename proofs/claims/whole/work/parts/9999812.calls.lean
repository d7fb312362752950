/-! ===== calls ===== -/
def exn (E : Nat) : String := if E = 0 then "java/util/NoSuchElementException" else "java/lang/IllegalArgumentException"
def Pcs (G : GG) (args : List Value) (h : AH) : Array Value → State → Prop := fun a U => a = (args.map (tv G)).toArray ∧ HR G h U.heap ∧ Bas G U
def Qcs (G : GG) (r : Option Value ⊕ Nat) (h' : AH) : Array Value → State → Outcome → State → Prop := fun _ _ oc t => (∃ v, r = .inl v ∧ oc = .returned (v.map (tv G))) ∧ HR G h' t.heap
def Xcs (G : GG) (r : Option Value ⊕ Nat) (h' : AH) : String → State → State → Prop := fun E _ t => (∃ k, r = .inr k ∧ E = exn k) ∧ HR G h' t.heap
def rm (d mc ms : Nat) : Room := { frames := d, cells := mc, slots := ms, locals := 64 * d }
abbrev CI : Type := MethodName × ByteArray × Nat × Option FieldType
/-- the methods that catch, with their tables -/
def hhL : List (MethodName × List (Nat × Nat × Nat × Nat)) := [(yL_summer, [(0, 9, 12, 13)]), (yL_law, [(0, 9, 12, 13)]), (yL_work, [(0, 9, 12, 13)]), (yL_clocks, [(0, 9, 12, 13)]), (yL_told, [(0, 9, 12, 13)]), (yL_picture, [(0, 10, 13, 31), (0, 10, 17, 13)]), (yL_person, [(0, 10, 13, 31), (0, 10, 17, 13)]), (yL_thought, [(0, 9, 12, 31)]), (yL_would, [(0, 22, 25, 13)]), (yL_books, [(0, 9, 12, 13)]), (yL_cost, [(0, 9, 12, 31)]), (yL_swap, [(0, 10, 13, 13)]), (yL_isBook, [(0, 16, 19, 13)]), (yL_heaps, [(0, 9, 12, 13)]), (yL_doubles, [(0, 9, 12, 31)]), (yL_line, [(0, 11, 14, 13)]), (yL_leave, [(0, 9, 12, 13)]), (yL_knock, [(0, 11, 14, 13)]), (yL_often, [(0, 11, 14, 13)]), (yL_order, [(0, 9, 12, 13)]), (yL_ordered, [(0, 10, 13, 13)]), (yL_off, [(0, 10, 13, 13)]), (yL_eyes, [(0, 13, 16, 13)]), (yL_need, [(0, 12, 15, 13)]), (yL_day, [(0, 10, 13, 13)]), (yL_together, [(0, 12, 15, 31), (0, 12, 19, 13)]), (yL_strict, [(0, 9, 12, 13)]), (yL_binned, [(0, 9, 12, 31)]), (yL_scene, [(0, 10, 13, 13)]), (yL_friend, [(0, 10, 13, 31), (0, 10, 17, 13)]), (yL_goesOn, [(0, 16, 19, 13)]), (yL_span, [(0, 20, 23, 13)])]
def hhOf (y : MethodName) : Option (List (Nat × Nat × Nat × Nat)) := (hhL.find? (fun q => decide (q.1 = y))).map (fun q => q.2)
theorem hh_law : ∀ q ∈ hhL, q.1.cls = RL := by decide +kernel
theorem hh_none {y : MethodName} (h : y.cls ≠ RL) : hhOf y = none := by
  unfold hhOf
  have : hhL.find? (fun q => decide (q.1 = y)) = none := List.find?_eq_none.mpr (fun q hq z => h (by
    have z := of_decide_eq_true z
    rw [← z]
    exact hh_law q hq))
  rw [this]
  rfl
def cwd (q : CI) : Cond := match hhOf q.1 with
  | none => .code q.1 q.2.1 q.2.2.1 q.2.2.2
  | some hh => .codeWith q.1 q.2.1 q.2.2.1 q.2.2.2 hh
theorem cwd_none {q : CI} (h : hhOf q.1 = none) : cwd q = .code q.1 q.2.1 q.2.2.1 q.2.2.2 := by unfold cwd; rw [h]
theorem cwd_some {q : CI} {hh : List (Nat × Nat × Nat × Nat)} (h : hhOf q.1 = some hh) : cwd q = .codeWith q.1 q.2.1 q.2.2.1 q.2.2.2 hh := by unfold cwd; rw [h]
/-- the contract of a method at a start and an end -/
def MC (l : Launch) (G : GG) (q : CI) (d : Nat) (args : List Value) (h : AH) (r : Option Value ⊕ Nat) (h' : AH) : Prop :=
  vx_Met l q.1 (cwd q :: gw) (rm d (h'.2.1 - h.2.1) (h'.2.2 - h.2.2)) (Pcs G args h) (Qcs G r h') (Xcs G r h') (h'.2.1 - h.2.1) (h'.2.2 - h.2.2) (gF G)
theorem Pcs.blind {G : GG} {args : List Value} {h : AH} : FrameBlind (Pcs G args h) := fun _ U g mk q => ⟨q.1, q.2.1, Bas.warm (U := U.calling g mk _) (State.WarmedH.refl U) q.2.2⟩
theorem vx_toMet {l : Launch} {y : MethodName} {ws : List Cond} {r : Room} {Pc : Array Value → State → Prop} {Qc : Array Value → State → Outcome → State → Prop} {XC : String → State → State → Prop} {mc ms : Nat} {free : Addr → Prop} (h : vx_Met l y ws r Pc Qc XC mc ms free) (hx : ∀ E st t, ¬ XC E st t) : Met l y ws r Pc Qc mc ms free := by
  refine MetFree.mono h (fun _ _ q => q) (fun _ _ _ _ _ q => q) (fun a st o t _ q => ?_)
  rcases q with q | ⟨_, -, E, _, _, q, -⟩
  · exact q
  · exact absurd q (hx E st t)
/-- what the tables say of a call -/
def CK (s : State) (o idx : Nat) (q : CI) (n : Nat) : Prop :=
  cwd q ∈ gw ∧ Cond.initialized q.1.cls ∈ gw ∧ (q.1.cls ≠ "java/lang/invoke/MethodHandle" ∧ q.1.cls ≠ "java/lang/invoke/VarHandle" ∧ (parseMethodDescriptor q.1.desc).map (fun d => d.parameters.length) = some n) ∧ q.2.2.1 ≤ 45 ∧
  (Cond.methodLink (cn o) idx q.1 ∈ gw ∨ ∃ host, va_Nw (.methodLinkNest (cn o) idx q.1 host) s)
theorem gw_code {w : Cond} (h : w ∈ gw) : GoodIn gw (w :: gw) := fun x hx => by
  rcases List.mem_cons.mp hx with rfl | hx
  · exact gw_good h
  · exact gw_good hx
theorem cat_sum {G : GG} {rest : AL} (h : rest.length ≤ 4) : ((rest.map (tv G)).map fun v => v.category).sum ≤ 8 := by
  have : ∀ l : AL, ((l.map (tv G)).map fun v => v.category).sum ≤ 2 * l.length := fun l => by
    induction l with
    | nil => simp
    | cons a t ih =>
      have ha := lv_cat (tv G a)
      simp only [List.map_cons, List.sum_cons, List.length_cons]
      omega
  have := this rest
  omega
section CALL
variable {p : Program} {l : Launch} {e : Env} {s : State} {m : MethodId} {args : Array Value} {below : List Frame} {meth : Method} {c : Code} {H : Heap} {locs : List Loc} {cells slots : Nat} {Q : State → Prop}
variable {G : GG} {cc : ByteArray} {pc : Nat} {ls : Array Slot} {o nL : Nat} {h h' : AH} {q : CI} {d idx n : Nat} {As rest : AL} {r : Option Value ⊕ Nat} {R : Room}
/-- how a call goes on -/
def KO (p : Program) (l : Launch) (e : Env) (R : Room) (s : State) (m : MethodId) (args : Array Value) (below : List Frame) (meth : Method) (c : Code) (cells slots : Nat) (Q : State → Prop) (G : GG) (pc : Nat) (ls : Array Slot) (h h' : AH) (rest : AL) (r : Option Value ⊕ Nat) : Prop :=
  (∀ v, r = .inl v → ∀ (H' : Heap) (locs' : List Loc), HR G h' H' → (∀ z ∈ locs', gb G ≤ z.base) → W p l e R s m args below meth c H' locs' (cells + (h'.2.1 - h.2.1)) (slots + (h'.2.2 - h.2.2)) Q (F0 m (pc + 3) ls ((v.toList ++ rest).map (tv G)))) ∧
  (∀ E, r = .inr E → ∀ (H' : Heap) (locs' : List Loc) (a : Addr) (ce : Cell), HR G h' H' → (∀ z ∈ locs', gb G ≤ z.base) → H'[a]? = some ce → ce.vm = .none → s.vm.findClass (exn E) = some ce.cls → vx_W p l e R s m args below meth c H' locs' (cells + (h'.2.1 - h.2.1)) (slots + (h'.2.2 - h.2.2)) Q (F0 m pc ls (rest.map (tv G))) a)
theorem tl_map (v : Option Value) (rest : AL) : (v.map (tv G)).toList ++ rest.map (tv G) = (v.toList ++ rest).map (tv G) := by cases v <;> rfl
theorem run_go {g : JFrame} {ar : Array Value} (hg : g = F0 m pc ls g.stack) (hr : vx_Run p l e R s m args below meth c H locs cells slots (h'.2.1 - h.2.1) (h'.2.2 - h.2.2) g (rest.map (tv G)) (Qcs G r h' ar) (Xcs G r h') (gF G)) (hl : ∀ z ∈ locs, gb G ≤ z.base)
    (kk : KO p l e R s m args below meth c cells slots Q G pc ls h h' rest r) : W p l e R s m args below meth c H locs cells slots Q g := by
  have hl' : ∀ {L : List Loc}, (∀ z ∈ L, gF G z.base) → ∀ z ∈ locs ++ L, gb G ≤ z.base := fun {L} hL z hz => (List.mem_append.mp hz).elim (hl z) (hL z)
  intro T hT X
  rcases hr T hT X with ⟨v, st₀, t, T', L, h0, X', hL, e1, e2, ⟨⟨v', hv', hv⟩, hH⟩, st⟩ | ⟨a, st₀, t, T', L, E, ce, h0, X', hL, e1, e2, ⟨⟨k, hk, rfl⟩, hH⟩, hce, hcv, hcl, st⟩
  · cases hv
    obtain ⟨t2, a1, b1⟩ := kk.1 v' hv' T'.heap (locs ++ L) (by rw [e1]; exact hH) (hl' hL) T' rfl X'
    refine ⟨t2, st t2 ?_, b1⟩
    rw [hg]
    rw [tl_map]
    exact a1
  · obtain ⟨t2, a1, b1⟩ := kk.2 k hk T'.heap (locs ++ L) a ce (by rw [e1]; exact hH) (hl' hL) (by rw [e1]; exact hce) hcv hcl T' rfl X'
    refine ⟨t2, st.trans ?_, b1⟩
    rw [hg]
    exact a1
theorem va_vx {g : JFrame} {rs : List Value} {Qa : State → Outcome → State → Prop} {XC : String → State → State → Prop} {mc ms : Nat} {free : Addr → Prop} (h : va_Run p l e R s m args below meth c H locs cells slots mc ms g rs Qa free) : vx_Run p l e R s m args below meth c H locs cells slots mc ms g rs Qa XC free :=
  fun T hT X => Or.inl (h T hT X)
theorem fixOf (C : CX G p s m args c cc o) (hml : c.maxLocals = nL) : CallFix p m c cc nL s args gw (cn o) := ⟨C.1, C.2.1, hml, C.2.2.1, C.2.2.2.1⟩
theorem preS_of (C : CX G p s m args c cc o) (hr : HR G h H) : PreS s H (Pcs G As h) (As.map (tv G)) :=
  ⟨Pcs.blind, fun U hU hW => ⟨rfl, by rw [hU]; exact hr, C.2.2.2.2.1.warm hW⟩⟩
theorem noX {v : Option Value} (E : String) (st t : State) : ¬ Xcs G (.inl v) h' E st t := fun q => by obtain ⟨⟨k, hk, -⟩, -⟩ := q; cases hk
set_option maxHeartbeats 4000000 in
theorem callS_ok (C : CX G p s m args c cc o) (hml : c.maxLocals = nL) (hr : HR G h H) (hl : ∀ z ∈ locs, gb G ≤ z.base) (hsz : ls.size = nL) (hK : CK s o idx q n) (hst : Cond.static q.1 ∈ gw) (hnh : ∀ hh, hhOf q.1 = some hh → Cond.methodLink (cn o) idx q.1 ∈ gw) (hM : MC l G q d As h r h') (hnest : (∃ v, r = .inl v) ∨ Cond.methodLink (cn o) idx q.1 ∈ gw) (hn : As.length = n) (hrest : rest.length ≤ 4) (hd : decode cc pc = .ok (.invokestatic idx, 3))
    (hR : R.frames = d + 1 ∧ R.locals = 64 * (d + 1)) (hf : cells + (h'.2.1 - h.2.1) ≤ R.cells ∧ slots + (h'.2.2 - h.2.2) ≤ R.slots) (kk : KO p l e R s m args below meth c cells slots Q G pc ls h h' rest r) :
    W p l e R s m args below meth c H locs cells slots Q (F0 m pc ls ((As.reverse ++ rest).map (tv G))) := by
  obtain ⟨k1, k2, k3, k4, k5⟩ := hK
  have hts := C.2.2.2.1
  have hrr : (rm d (h'.2.1 - h.2.1) (h'.2.2 - h.2.2)).frames + 1 ≤ R.frames ∧ 8 + (q.2.2.1 + 11) + (rm d (h'.2.1 - h.2.1) (h'.2.2 - h.2.2)).locals ≤ R.locals := by
    constructor
    · rw [hR.1]; exact Nat.le_refl _
    · rw [hR.2]; show 8 + (q.2.2.1 + 11) + 64 * d ≤ _; omega
  have hstk : (F0 m pc ls ((As.reverse ++ rest).map (tv G))).stack = (As.map (tv G)).reverse ++ rest.map (tv G) := by show (As.reverse ++ rest).map (tv G) = _; rw [List.map_append, List.map_reverse]
  have hW : 2 * (F0 m pc ls ((As.reverse ++ rest).map (tv G))).monitorRoom + ((rest.map (tv G)).map fun v => v.category).sum ≤ 8 := lv_room (m := m) (pc := pc) (ls := ls) (rest := (As.reverse ++ rest).map (tv G)) (cat_sum hrest)
  cases hh9 : hhOf q.1 with
  | some hh =>
    have hlk : Cond.methodLink (cn o) idx q.1 ∈ gw := by
      rcases k5 with z | ⟨host, z⟩
      · exact z
      · exact hnh hh hh9
    unfold MC at hM
    rw [cwd_some hh9] at hM k1
    refine run_go rfl (vx_runSX (fixOf C hml) hM (vx_cwSW n hts (fun w hw => ?_) rfl rfl rfl k3 hrr) (preS_of C hr) rfl (by rw [List.length_map]; exact hn) hsz hstk hW hd hf) hl kk
    unfold va_wsS at hw
    rcases List.mem_append.mp hw with hw | hw
    · simp only [List.mem_cons, List.not_mem_nil, or_false] at hw
      rcases hw with rfl | rfl | rfl
      · exact gw_good hlk
      · exact gw_good hst
      · exact gw_good k2
    · exact gw_code k1 w hw
  | none =>
  unfold MC at hM
  rw [cwd_none hh9] at hM k1
  have nonnest : Cond.methodLink (cn o) idx q.1 ∈ gw → W p l e R s m args below meth c H locs cells slots Q (F0 m pc ls ((As.reverse ++ rest).map (tv G))) := fun hlk =>
    run_go rfl (vx_runS (fixOf C hml) hM ⟨callB_of n hts (gw_code k1) rfl rfl rfl (hts _ k2) (hts _ hlk) k3 hrr, hts _ hst⟩ (preS_of C hr) rfl (by rw [List.length_map]; exact hn) hsz hstk hW hd hf) hl kk
  rcases hnest with ⟨v, rfl⟩ | hlk
  · rcases k5 with hlk | ⟨host, hlk⟩
    · exact nonnest hlk
    · exact run_go rfl (va_vx (va_runSN (fixOf C hml) (vx_toMet hM noX) ⟨va_cnB n hts (gw_code k1) rfl rfl rfl hlk (hts _ k2) k3 hrr, hts _ hst, trivial⟩ (preS_of C hr) rfl (by rw [List.length_map]; exact hn) hsz hstk hW hd hf)) hl kk
  · exact nonnest hlk
set_option maxHeartbeats 4000000 in
theorem callV_ok {b ci : Nat} {fs : List Value} {Cn : String} {T : u_T} {N : Nat} (hh9 : hhOf q.1 = none) (C : CX G p s m args c cc o) (hml : c.maxLocals = nL) (hr : HR G h H) (hl : ∀ z ∈ locs, gb G ≤ z.base) (hsz : ls.size = nL) (hK : CK s o idx q n) (hc : vwCl[ci]? = some (Cn, T, N)) (hcl : q.1.cls = Cn) (hin : Cond.instanceMethod q.1 ∈ gw) (hsel : Cond.selects Cn q.1 q.1 ∈ gw) (hb : b < h.2.1) (he : h.1 b = .inr (ci, fs))
    (hM : MC l G q d (.ref b :: As) h r h') (hnest : (∃ v, r = .inl v) ∨ Cond.methodLink (cn o) idx q.1 ∈ gw) (hn : As.length = n) (hrest : rest.length ≤ 4) (hd : decode cc pc = .ok (.invokevirtual idx, 3))
    (hR : R.frames = d + 1 ∧ R.locals = 64 * (d + 1)) (hf : cells + (h'.2.1 - h.2.1) ≤ R.cells ∧ slots + (h'.2.2 - h.2.2) ≤ R.slots) (kk : KO p l e R s m args below meth c cells slots Q G pc ls h h' rest r) :
    W p l e R s m args below meth c H locs cells slots Q (F0 m pc ls ((As.reverse ++ .ref b :: rest).map (tv G))) := by
  obtain ⟨k1, k2, k3, k4, k5⟩ := hK
  unfold MC at hM
  rw [cwd_none hh9] at hM k1
  have hts := C.2.2.2.1
  have hrr : (rm d (h'.2.1 - h.2.1) (h'.2.2 - h.2.2)).frames + 1 ≤ R.frames ∧ 8 + (q.2.2.1 + 11) + (rm d (h'.2.1 - h.2.1) (h'.2.2 - h.2.2)).locals ≤ R.locals := by
    constructor
    · rw [hR.1]; exact Nat.le_refl _
    · rw [hR.2]; show 8 + (q.2.2.1 + 11) + 64 * d ≤ _; omega
  have hstk : (F0 m pc ls ((As.reverse ++ .ref b :: rest).map (tv G))).stack = (As.map (tv G)).reverse ++ .ref (gr G b) :: rest.map (tv G) := by show (As.reverse ++ .ref b :: rest).map (tv G) = _; rw [List.map_append, List.map_reverse]; rfl
  have hW : 2 * (F0 m pc ls ((As.reverse ++ .ref b :: rest).map (tv G))).monitorRoom + ((rest.map (tv G)).map fun v => v.category).sum ≤ 8 := lv_room (m := m) (pc := pc) (ls := ls) (rest := (As.reverse ++ .ref b :: rest).map (tv G)) (cat_sum hrest)
  have hci : ci < 10 := (List.getElem?_eq_some_iff.mp hc).1
  have hpre : PreV s H Cn (gr G b) (Pcs G (.ref b :: As) h) (As.map (tv G)) := by
    obtain ⟨r9, h1, cell, q1, q2, q3, q4⟩ := hr.get C.2.2.2.2.2 hb he (isOpq_obj (by omega))
    refine ⟨Pcs.blind, ⟨cell, q1, by rw [q3]; rfl, ?_⟩, fun U hU hW => ⟨rfl, by rw [hU]; exact hr, C.2.2.2.2.1.warm hW⟩⟩
    rw [q2]
    exact (C.2.2.2.2.1.1.1 ci _ hc).2.1
  have hgi : GoodIn gw (wsV (cn o) idx Cn q.1 (Cond.code q.1 q.2.1 q.2.2.1 q.2.2.2 :: gw)) ↔ Cond.methodLink (cn o) idx q.1 ∈ gw := by
    constructor
    · intro h9; exact (h9 _ (by simp [wsV])).1
    · intro h9 w hw
      unfold wsV at hw
      rcases List.mem_append.mp hw with hw | hw
      · simp only [List.mem_cons, List.not_mem_nil, or_false] at hw
        rcases hw with rfl | rfl | rfl | rfl
        · exact gw_good h9
        · exact gw_good hin
        · exact gw_good hsel
        · exact gw_good (by rw [← hcl]; exact k2)
      · exact gw_code k1 w hw
  have nonnest : Cond.methodLink (cn o) idx q.1 ∈ gw → W p l e R s m args below meth c H locs cells slots Q (F0 m pc ls ((As.reverse ++ .ref b :: rest).map (tv G))) := fun hlk =>
    run_go rfl (vx_runV (fixOf C hml) hM (cwV n hts (hgi.mpr hlk) rfl rfl rfl ⟨hcl, k3⟩ hrr) hpre rfl (by rw [List.length_map]; exact hn) hsz hstk hW hd hf) hl kk
  rcases hnest with ⟨v, rfl⟩ | hlk
  · rcases k5 with hlk | ⟨host, hlk⟩
    · exact nonnest hlk
    · exact run_go rfl (va_vx (va_runVN (C := Cn) (fixOf C hml) (vx_toMet hM noX) ⟨va_cnB n hts (gw_code k1) rfl rfl rfl hlk (hts _ k2) k3 hrr, hts _ hin, hts _ hsel⟩ hpre rfl (by rw [List.length_map]; exact hn) hsz hstk hW hd hf)) hl kk
  · exact nonnest hlk
set_option maxHeartbeats 4000000 in
theorem callI_ok {b : Nat} {v : Option Value} (hh9 : hhOf q.1 = none) (C : CX G p s m args c cc o) (hml : c.maxLocals = nL) (hr : HR G h H) (hl : ∀ z ∈ locs, gb G ≤ z.base) (hsz : ls.size = nL) (hK : CK s o idx q n) (hin : Cond.instanceMethod q.1 ∈ gw) (hnm : q.1.name = "<init>") (hret : q.2.2.2 = none)
    (hM : MC l G q d (.ref b :: As) h (.inl v) h') (hn : As.length = n) (hrest : rest.length ≤ 4) (hd : decode cc pc = .ok (.invokespecial idx, 3))
    (hR : R.frames = d + 1 ∧ R.locals = 64 * (d + 1)) (hf : cells + (h'.2.1 - h.2.1) ≤ R.cells ∧ slots + (h'.2.2 - h.2.2) ≤ R.slots) (kk : KO p l e R s m args below meth c cells slots Q G pc ls h h' rest (.inl v)) :
    W p l e R s m args below meth c H locs cells slots Q (F0 m pc ls ((As.reverse ++ .ref b :: rest).map (tv G))) := by
  obtain ⟨y, bytes, mx, ret⟩ := q
  have hret : ret = none := hret
  subst hret
  obtain ⟨k1, k2, k3, k4, k5⟩ := hK
  unfold MC at hM
  rw [cwd_none hh9] at hM k1
  have hts := C.2.2.2.1
  have hrr : (rm d (h'.2.1 - h.2.1) (h'.2.2 - h.2.2)).frames + 1 ≤ R.frames ∧ 8 + (mx + 11) + (rm d (h'.2.1 - h.2.1) (h'.2.2 - h.2.2)).locals ≤ R.locals := by
    constructor
    · rw [hR.1]; exact Nat.le_refl _
    · rw [hR.2]; show 8 + (mx + 11) + 64 * d ≤ _; have : mx ≤ 45 := k4; omega
  have hstk : (F0 m pc ls ((As.reverse ++ .ref b :: rest).map (tv G))).stack = (As.map (tv G)).reverse ++ .ref (gr G b) :: rest.map (tv G) := by show (As.reverse ++ .ref b :: rest).map (tv G) = _; rw [List.map_append, List.map_reverse]; rfl
  have hW : 2 * (F0 m pc ls ((As.reverse ++ .ref b :: rest).map (tv G))).monitorRoom + ((rest.map (tv G)).map fun v => v.category).sum ≤ 8 := lv_room (m := m) (pc := pc) (ls := ls) (rest := (As.reverse ++ .ref b :: rest).map (tv G)) (cat_sum hrest)
  have hpre : PreS s H (Pcs G (.ref b :: As) h) (.ref (gr G b) :: As.map (tv G)) := preS_of C hr
  rcases k5 with hlk | ⟨host, hlk⟩
  · exact run_go rfl (va_vx (va_runI (fixOf C hml) (vx_toMet hM noX) (cwI n hts (gw_code k1) rfl rfl rfl (hts _ k2) (hts _ hlk) (hts _ hin) hnm k3 hrr) hpre rfl (by rw [List.length_map]; exact hn) hsz hstk hW hd hf)) hl kk
  · exact run_go rfl (va_vx (va_runIN (fixOf C hml) (vx_toMet hM noX) ⟨va_cnB n hts (gw_code k1) rfl rfl rfl hlk (hts _ k2) k3 hrr, hnm, hts _ hin⟩ hpre rfl (by rw [List.length_map]; exact hn) hsz hstk hW hd hf)) hl kk
end CALL
