/-! ===== the texts' methods ===== -/
def SCt (l : Launch) (G : GG) (y : MethodName) (cc : ByteArray) (nL : Nat) (ret : Option FieldType) (d : Nat) (as : List Value) (h : AH) (r : Option Value) : Prop :=
  vx_Met l y (Cond.code y cc nL ret :: gw) (rm d 0 0) (fun a U => a = as.toArray ∧ HR G h U.heap ∧ Bas G U) (fun _ _ oc t => oc = .returned r ∧ HR G h t.heap) (fun _ _ _ => False) 0 0 (gF G)
def CY (G : GG) (p : Program) (s : State) (m : MethodId) (args : Array Value) (c : Code) (cc : ByteArray) (own : String) : Prop :=
  p.tables.exec = Jvm.exec ∧ c.code = cc ∧ s.vm.findClass own = some m.cls ∧ (∀ w ∈ gw, w.before args s = true) ∧ Bas G s
theorem HR.kept {G : GG} {h : AH} {H : Heap} (hr : HR G h H) : ∀ a : Nat, a < (gH G).size → ¬ gF G a → H[a]? = (gH G)[a]? := fun a _ h => hr.2.2.1 a (Nat.not_le.mp h)
theorem HR.self {G : GG} {h : AH} {H : Heap} (hr : HR G h H) {H' : Heap} {locs : List Loc} (hr' : HR G h H') (hl : ∀ z ∈ locs, gb G ≤ z.base) : va_S (gF G) H H' locs := HR.S hr hr' (Nat.le_refl _) hl
section STR
variable {p : Program} {l : Launch} {e : Env} {s : State} {m : MethodId} {args : Array Value} {below : List Frame} {meth : Method} {c : Code} {H : Heap} {locs : List Loc} {Q : State → Prop}
variable {G : GG} {cc : ByteArray} {pc : Nat} {ls : Array Slot} {own : String} {nL d idx n : Nat} {h : AH} {as rest : List Value} {y : MethodName} {bytes : ByteArray} {mx : Nat} {ret : Option FieldType} {r : Option Value}
theorem sc_blind : FrameBlind (fun a U => a = as.toArray ∧ HR G h U.heap ∧ Bas G U) := fun _ U g mk q => ⟨q.1, q.2.1, Bas.warm (U := U.calling g mk _) (State.WarmedH.refl U) q.2.2⟩
theorem sc_go {g : JFrame} {ar : Array Value} (hg : g = F0 m pc ls g.stack) (hr : vx_Run p l e (rm d 0 0) s m args below meth c H locs 0 0 0 0 g rest (fun _ oc t => oc = .returned r ∧ HR G h t.heap) (fun _ _ _ => False) (gF G)) (hl : ∀ z ∈ locs, gb G ≤ z.base)
    (kk : ∀ (H' : Heap) (locs' : List Loc), HR G h H' → (∀ z ∈ locs', gb G ≤ z.base) → W p l e (rm d 0 0) s m args below meth c H' locs' 0 0 Q (F0 m (pc + 3) ls (r.toList ++ rest))) : W p l e (rm d 0 0) s m args below meth c H locs 0 0 Q g := by
  intro T hT X
  rcases hr T hT X with ⟨v, st₀, t, T', L, h0, X', hL, e1, e2, ⟨hv, hH⟩, st⟩ | ⟨a, st₀, t, T', L, E, ce, h0, X', hL, e1, e2, hf, -⟩
  · cases hv
    obtain ⟨t2, a1, b1⟩ := kk T'.heap (locs ++ L) (by rw [e1]; exact hH) (fun z hz => (List.mem_append.mp hz).elim (hl z) (hL z)) T' rfl X'
    refine ⟨t2, st t2 ?_, b1⟩
    rw [hg]
    exact a1
  · exact hf.elim
theorem sc_callS (C : CY G p s m args c cc own) (hml : c.maxLocals = nL) (hsz : ls.size = nL) (hr : HR G h H) (hl : ∀ z ∈ locs, gb G ≤ z.base) (hM : SCt l G y bytes mx ret d as h r) (hcode : Cond.code y bytes mx ret ∈ gw) (hini : Cond.initialized y.cls ∈ gw) (hlk : Cond.methodLink own idx y ∈ gw) (hst : Cond.static y ∈ gw)
    (k3 : y.cls ≠ "java/lang/invoke/MethodHandle" ∧ y.cls ≠ "java/lang/invoke/VarHandle" ∧ (parseMethodDescriptor y.desc).map (fun d => d.parameters.length) = some n) (hmx : mx ≤ 3) (hn : as.length = n) (hrest : (rest.map fun v => v.category).sum ≤ 8) (hd : decode cc pc = .ok (.invokestatic idx, 3))
    (kk : ∀ (H' : Heap) (locs' : List Loc), HR G h H' → (∀ z ∈ locs', gb G ≤ z.base) → W p l e (rm (d + 1) 0 0) s m args below meth c H' locs' 0 0 Q (F0 m (pc + 3) ls (r.toList ++ rest))) :
    W p l e (rm (d + 1) 0 0) s m args below meth c H locs 0 0 Q (F0 m pc ls (as.reverse ++ rest)) := by
  obtain ⟨hx, hb, hown, hts, hB⟩ := C
  have hrr : (rm d 0 0).frames + 1 ≤ (rm (d + 1) 0 0).frames ∧ 8 + (mx + 11) + (rm d 0 0).locals ≤ (rm (d + 1) 0 0).locals := ⟨Nat.le_refl _, by show 8 + (mx + 11) + 64 * d ≤ 64 * (d + 1); omega⟩
  refine sc_go (ar := as.toArray) rfl (vx_runS (Ts := gw) ⟨hx, hb, hml, hown, hts⟩ hM ⟨callB_of n hts (gw_code hcode) rfl rfl rfl (hts _ hini) (hts _ hlk) k3 hrr, hts _ hst⟩ ⟨sc_blind, fun U hU hW => ⟨rfl, by rw [hU]; exact hr, hB.warm hW⟩⟩ rfl hn hsz rfl (lv_room (m := m) (pc := pc) (ls := ls) (rest := as.reverse ++ rest) hrest) hd ⟨Nat.zero_le _, Nat.zero_le _⟩) hl kk
theorem sc_callV {a : Nat} (C : CY G p s m args c cc own) (hml : c.maxLocals = nL) (hsz : ls.size = nL) (hr : HR G h H) (hl : ∀ z ∈ locs, gb G ≤ z.base) (hM : SCt l G y bytes mx ret d (.ref a :: as) h r) (hcode : Cond.code y bytes mx ret ∈ gw) (hini : Cond.initialized y.cls ∈ gw) (hlk : Cond.methodLink own idx y ∈ gw) (hin : Cond.instanceMethod y ∈ gw) (hsel : Cond.selects y.cls y y ∈ gw)
    (hcell : ∃ cell : Cell, H[a]? = some cell ∧ cell.vm.isStatics = false ∧ s.vm.findClass y.cls = some cell.cls)
    (k3 : y.cls ≠ "java/lang/invoke/MethodHandle" ∧ y.cls ≠ "java/lang/invoke/VarHandle" ∧ (parseMethodDescriptor y.desc).map (fun d => d.parameters.length) = some n) (hmx : mx ≤ 3) (hn : as.length = n) (hrest : (rest.map fun v => v.category).sum ≤ 8) (hd : decode cc pc = .ok (.invokevirtual idx, 3))
    (kk : ∀ (H' : Heap) (locs' : List Loc), HR G h H' → (∀ z ∈ locs', gb G ≤ z.base) → W p l e (rm (d + 1) 0 0) s m args below meth c H' locs' 0 0 Q (F0 m (pc + 3) ls (r.toList ++ rest))) :
    W p l e (rm (d + 1) 0 0) s m args below meth c H locs 0 0 Q (F0 m pc ls (as.reverse ++ .ref a :: rest)) := by
  obtain ⟨hx, hb, hown, hts, hB⟩ := C
  have hrr : (rm d 0 0).frames + 1 ≤ (rm (d + 1) 0 0).frames ∧ 8 + (mx + 11) + (rm d 0 0).locals ≤ (rm (d + 1) 0 0).locals := ⟨Nat.le_refl _, by show 8 + (mx + 11) + 64 * d ≤ 64 * (d + 1); omega⟩
  have hgi : GoodIn gw (wsV own idx y.cls y (Cond.code y bytes mx ret :: gw)) := by
    intro w hw
    unfold wsV at hw
    rcases List.mem_append.mp hw with hw | hw
    · simp only [List.mem_cons, List.not_mem_nil, or_false] at hw
      rcases hw with rfl | rfl | rfl | rfl
      · exact gw_good hlk
      · exact gw_good hin
      · exact gw_good hsel
      · exact gw_good hini
    · exact gw_code hcode w hw
  refine sc_go (ar := (Value.ref a :: as).toArray) rfl (vx_runV (Ts := gw) (C := y.cls) ⟨hx, hb, hml, hown, hts⟩ hM (cwV n hts hgi rfl rfl rfl ⟨rfl, k3⟩ hrr) ⟨sc_blind, hcell, fun U hU hW => ⟨rfl, by rw [hU]; exact hr, hB.warm hW⟩⟩ rfl hn hsz rfl (lv_room (m := m) (pc := pc) (ls := ls) (rest := as.reverse ++ .ref a :: rest) hrest) hd ⟨Nat.zero_le _, Nat.zero_le _⟩) hl kk
end STR
/-! the words -/
theorem jw_s1 : Cond.fieldLink "java/lang/String" 38 "java/lang/String" "COMPACT_STRINGS" "Z" ∈ gw := gw_in (by decide +kernel) rfl
theorem jw_s2 : Cond.fieldLink "java/lang/String" 15 "java/lang/String" "coder" "B" ∈ gw := gw_in (by decide +kernel) rfl
theorem jw_s3 : Cond.fieldLink "java/lang/String" 9 "java/lang/String" "value" "[B" ∈ gw := gw_in (by decide +kernel) rfl
theorem jw_s4 : Cond.fieldLink "java/lang/String" 1053 "jdk/internal/util/Preconditions" "SIOOBE_FORMATTER" "Ljava/util/function/BiFunction;" ∈ gw := gw_in (by decide +kernel) rfl
theorem jw_s5 : Cond.code yJ3_checkIndex_8e157 cJ3_checkIndex_8e157 3 (some .int) ∈ gw := gw_in (by decide +kernel) rfl
theorem jw_s6 : Cond.initialized "jdk/internal/util/Preconditions" ∈ gw := gw_in (by decide +kernel) rfl
theorem jw_s7 : Cond.methodLink "java/lang/String" 1059 yJ3_checkIndex_8e157 ∈ gw := gw_in (by decide +kernel) rfl
theorem jw_s8 : Cond.static yJ3_checkIndex_8e157 ∈ gw := gw_in (by decide +kernel) rfl
theorem jw_s9 : Cond.code yJ0_checkIndex_df160 cJ0_checkIndex_df160 2 none ∈ gw := gw_in (by decide +kernel) rfl
theorem jw_s10 : Cond.initialized "java/lang/String" ∈ gw := gw_in (by decide +kernel) rfl
theorem jw_s11 : Cond.methodLink "java/lang/StringLatin1" 9 yJ0_checkIndex_df160 ∈ gw := gw_in (by decide +kernel) rfl
theorem jw_s12 : Cond.static yJ0_checkIndex_df160 ∈ gw := gw_in (by decide +kernel) rfl
theorem jw_s13 : Cond.code yJ1_charAt_3b067 cJ1_charAt_3b067 2 (some .char) ∈ gw := gw_in (by decide +kernel) rfl
theorem jw_s14 : Cond.initialized "java/lang/StringLatin1" ∈ gw := gw_in (by decide +kernel) rfl
theorem jw_s15 : Cond.methodLink "java/lang/String" 495 yJ1_charAt_3b067 ∈ gw := gw_in (by decide +kernel) rfl
theorem jw_s16 : Cond.static yJ1_charAt_3b067 ∈ gw := gw_in (by decide +kernel) rfl
theorem jw_s17 : Cond.code yJ0_coder_7d493 cJ0_coder_7d493 1 (some .byte) ∈ gw := gw_in (by decide +kernel) rfl
theorem jw_s18 : Cond.methodLink "java/lang/String" 335 yJ0_coder_7d493 ∈ gw := gw_in (by decide +kernel) rfl
theorem jw_s19 : Cond.instanceMethod yJ0_coder_7d493 ∈ gw := gw_in (by decide +kernel) rfl
theorem jw_s20 : Cond.selects "java/lang/String" yJ0_coder_7d493 yJ0_coder_7d493 ∈ gw := gw_in (by decide +kernel) rfl
theorem jw_s21 : Cond.code yJ0_isLatin1_aae02 cJ0_isLatin1_aae02 1 (some .boolean) ∈ gw := gw_in (by decide +kernel) rfl
theorem jw_s22 : Cond.methodLink "java/lang/String" 492 yJ0_isLatin1_aae02 ∈ gw := gw_in (by decide +kernel) rfl
theorem jw_s23 : Cond.instanceMethod yJ0_isLatin1_aae02 ∈ gw := gw_in (by decide +kernel) rfl
theorem jw_s24 : Cond.selects "java/lang/String" yJ0_isLatin1_aae02 yJ0_isLatin1_aae02 ∈ gw := gw_in (by decide +kernel) rfl
section STR2
variable {l : Launch} {G : GG} {d j : Nat} {h : AH}
theorem sc_coder (hj : j < 24) : SCt l G yJ0_coder_7d493 cJ0_coder_7d493 1 (some .byte) d [.ref (gr G (1500000 + j))] h (some (.int 0)) := by
  refine vx_ofW (by decide +kernel) rfl ?_
  intro p e s m args below meth c s₁ B hml htab hv
  obtain ⟨rfl, hr0, hB⟩ := hv
  have hts0 := atoms_spec (ws := Cond.code yJ0_coder_7d493 cJ0_coder_7d493 1 (some .byte) :: gw) B.pre
  have hts : ∀ w ∈ gw, w.before _ s = true := fun w hw => hts0 w (List.mem_cons_of_mem _ hw)
  have hown : s.vm.findClass "java/lang/String" = some m.cls := findClass_of_methodNamed B.named
  have hS := hr0.self hr0 (locs := []) (fun z hz => nomatch hz)
  have hZ := hB.2.2.2.2.2.2.2.2.2.1.kept hr0.kept
  have hK := (hB.2.2.2.2.2.1.kept hr0.kept).1 j hj
  rw [lg_entry_eq]
  refine va_gets B.exec B.bytes hZ hS hown (hts _ jw_s1) (fun _ z => z) (by decide +kernel) ?_
  refine lv_if_eq B.exec B.bytes (off := 10) (tgt := 13) (by decide +kernel) (by decide) (fun z => absurd z (by decide)) (fun _ => ?_)
  refine lv_aload_n B.exec B.bytes (k := 0) (i := 0) (by decide +kernel) rfl (x := gr G (1500000 + j)) rfl ?_
  refine vk_getf B.exec B.bytes hK.2.1 hS hown (hts _ jw_s2) (fun _ z => z) (by decide +kernel) ?_
  refine lv_goto B.exec B.bytes (off := 4) (tgt := 14) (by decide +kernel) (by decide) ?_
  exact vx_ret (W.zret B.exec B.bytes B.returns (by decide) (fun t ht _ => ⟨rfl, by rw [ht]; exact hr0⟩) (fun z hz => nomatch hz) (by decide +kernel))
theorem sc_latin (hj : j < 24) : SCt l G yJ0_isLatin1_aae02 cJ0_isLatin1_aae02 1 (some .boolean) d [.ref (gr G (1500000 + j))] h (some (.int 1)) := by
  refine vx_ofW (by decide +kernel) rfl ?_
  intro p e s m args below meth c s₁ B hml htab hv
  obtain ⟨rfl, hr0, hB⟩ := hv
  have hts0 := atoms_spec (ws := Cond.code yJ0_isLatin1_aae02 cJ0_isLatin1_aae02 1 (some .boolean) :: gw) B.pre
  have hts : ∀ w ∈ gw, w.before _ s = true := fun w hw => hts0 w (List.mem_cons_of_mem _ hw)
  have hown : s.vm.findClass "java/lang/String" = some m.cls := findClass_of_methodNamed B.named
  have hS := hr0.self hr0 (locs := []) (fun z hz => nomatch hz)
  have hZ := hB.2.2.2.2.2.2.2.2.2.1.kept hr0.kept
  have hK := (hB.2.2.2.2.2.1.kept hr0.kept).1 j hj
  rw [lg_entry_eq]
  refine va_gets B.exec B.bytes hZ hS hown (hts _ jw_s1) (fun _ z => z) (by decide +kernel) ?_
  refine lv_if_eq B.exec B.bytes (off := 14) (tgt := 17) (by decide +kernel) (by decide) (fun z => absurd z (by decide)) (fun _ => ?_)
  refine lv_aload_n B.exec B.bytes (k := 0) (i := 0) (by decide +kernel) rfl (x := gr G (1500000 + j)) rfl ?_
  refine vk_getf B.exec B.bytes hK.2.1 hS hown (hts _ jw_s2) (fun _ z => z) (by decide +kernel) ?_
  refine lv_if_ne B.exec B.bytes (off := 7) (tgt := 17) (by decide +kernel) (by decide) (fun z => absurd rfl z) (fun _ => ?_)
  refine lv_iconst (n := 1) (v := 1) B.exec B.bytes (by decide +kernel) (by decide) ?_
  refine lv_goto B.exec B.bytes (off := 4) (tgt := 18) (by decide +kernel) (by decide) ?_
  exact vx_ret (W.zret B.exec B.bytes B.returns (by decide) (fun t ht _ => ⟨rfl, by rw [ht]; exact hr0⟩) (fun z hz => nomatch hz) (by decide +kernel))
theorem sc_pre {i n : Int32} {v : Value} (hv9 : v = .null ∨ ∃ t, v = .ref t) (h1 : ¬ i < 0) (h2 : i < n) : SCt l G yJ3_checkIndex_8e157 cJ3_checkIndex_8e157 3 (some .int) d [.int i, .int n, v] h (some (.int i)) := by
  refine vx_ofW (by decide +kernel) rfl ?_
  intro p e s m args below meth c s₁ B hml htab hv
  obtain ⟨rfl, hr0, hB⟩ := hv
  have hl0 : (lg_sl [.int i, .int n, v] ++ List.replicate (3 - (lg_sl [.int i, .int n, v]).length) Slot.unset).toArray = #[.val (.int i), .val (.int n), .val v] := by
    rcases hv9 with rfl | ⟨t, rfl⟩ <;> rfl
  rw [lg_entry_eq, hl0]
  refine lv_iload_n B.exec B.bytes (k := 0) (i := 0) (x := i) (by decide +kernel) rfl rfl ?_
  refine lv_if_lt B.exec B.bytes (off := 8) (tgt := 9) (by decide +kernel) (by decide) (fun z => absurd z h1) (fun _ => ?_)
  refine lv_iload_n B.exec B.bytes (k := 0) (i := 0) (x := i) (by decide +kernel) rfl rfl ?_
  refine lv_iload_n B.exec B.bytes (k := 1) (i := 1) (x := n) (by decide +kernel) rfl rfl ?_
  refine lv_icmp_lt B.exec B.bytes (off := 10) (tgt := 16) (by decide +kernel) (by decide) (fun _ => ?_) (fun z => absurd h2 z)
  refine lv_iload_n B.exec B.bytes (k := 0) (i := 0) (x := i) (by decide +kernel) rfl rfl ?_
  exact vx_ret (W.iret B.exec B.bytes B.returns (fun t ht _ => ⟨rfl, by rw [ht]; exact hr0⟩) (fun z hz => nomatch hz) (by decide +kernel))
theorem sc_ci {i n : Int32} (h1 : ¬ i < 0) (h2 : i < n) : SCt l G yJ0_checkIndex_df160 cJ0_checkIndex_df160 2 none (d + 1) [.int i, .int n] h none := by
  refine vx_ofW (by decide +kernel) rfl ?_
  intro p e s m args below meth c s₁ B hml htab hv
  obtain ⟨rfl, hr0, hB⟩ := hv
  have hts0 := atoms_spec (ws := Cond.code yJ0_checkIndex_df160 cJ0_checkIndex_df160 2 none :: gw) B.pre
  have hts : ∀ w ∈ gw, w.before _ s = true := fun w hw => hts0 w (List.mem_cons_of_mem _ hw)
  have hown : s.vm.findClass "java/lang/String" = some m.cls := findClass_of_methodNamed B.named
  have hS := hr0.self hr0 (locs := []) (fun z hz => nomatch hz)
  have C : CY G p s m _ c cJ0_checkIndex_df160 "java/lang/String" := ⟨B.exec, B.bytes, hown, hts, hB⟩
  obtain ⟨v, hv9, hZ⟩ : ∃ v : Value, (v = .null ∨ ∃ t, v = .ref t) ∧ va_Z "jdk/internal/util/Preconditions" "SIOOBE_FORMATTER" "Ljava/util/function/BiFunction;" v (gF G) s s.heap := by
    rcases hB.2.2.2.2.2.2.2.2.2.2.1 with z | ⟨t, z⟩
    · exact ⟨.null, Or.inl rfl, z.kept hr0.kept⟩
    · exact ⟨.ref t, Or.inr ⟨t, rfl⟩, z.kept hr0.kept⟩
  rw [lg_entry_eq]
  refine lv_iload_n B.exec B.bytes (k := 0) (i := 0) (x := i) (by decide +kernel) rfl rfl ?_
  refine lv_iload_n B.exec B.bytes (k := 1) (i := 1) (x := n) (by decide +kernel) rfl rfl ?_
  refine va_gets B.exec B.bytes hZ hS hown (hts _ jw_s4) (fun _ z => z) (by decide +kernel) ?_
  refine sc_callS (n := 3) (d := d) (as := [.int i, .int n, v]) (rest := []) C hml rfl hr0 (fun z hz => nomatch hz) (sc_pre hv9 h1 h2) jw_s5 jw_s6 jw_s7 jw_s8 (by decide +kernel) (by decide) rfl (by decide) (by decide +kernel) (fun H' locs' hr' hl' => ?_)
  refine lv_pop B.exec B.bytes (by decide +kernel) rfl ?_
  exact vx_ret (W.vret B.exec B.bytes B.returns (fun t ht _ => ⟨rfl, by rw [ht]; exact hr'⟩) hl' (by decide +kernel))
end STR2
