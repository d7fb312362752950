/-! ===== one instruction: proved ===== -/
theorem W.ofEq {p : Program} {l : Launch} {e : Env} {R : Room} {s : State} {m : MethodId} {args : Array Value} {below : List Frame} {meth : Method} {c : Code} {H : Heap} {locs : List Loc} {cells slots cells' slots' : Nat} {Q : State → Prop} {g : JFrame} (h1 : cells = cells') (h2 : slots = slots') (k : W p l e R s m args below meth c H locs cells' slots' Q g) : W p l e R s m args below meth c H locs cells slots Q g := by
  subst h1; subst h2; exact k
section LEAFOK
variable {p : Program} {l : Launch} {e : Env} {s : State} {m : MethodId} {args : Array Value} {below : List Frame} {meth : Method} {c : Code}
variable {G : GG} {cc : ByteArray} {o nL d : Nat} {h0 hf : AH} {rf : Option Value ⊕ Nat} {rt : Option FieldType} {cs : List (Nat × Nat)}
variable {mI : Nat → Option CI} {th : Nat → Bool} {wr : Bool} {Ls : List Nat} {pc nx : Nat} {i : Instr} {ds : List Nat} {st : AS} {q : AO × AS} {call : CF} {Lt : Nat → Prop}
theorem BT.go {off : Int} {k : Nat} {Q : Nat → Prop} (hb : BT Ls pc off k) (hK : ∀ t, Ls[k]? = some t → Q t) : ∃ t : Nat, (pc : Int) + off = (t : Int) ∧ Q t := by
  obtain ⟨t, h1, h2⟩ := hb
  exact ⟨t, h2, hK t h1⟩
set_option maxHeartbeats 8000000 in
theorem jdk_ok {y : Nat} {loc stk : AL} {h : AH} {x : AL × AH} (C : CX G p s m args c cc o) (hml : c.maxLocals = nL) (hd : 7 ≤ d) (hJ : JS l G) (hx : jdkO y stk h = some x) (hnx : nx = pc + 3)
    (hcase : (decode cc pc = .ok (i, 3)) ∧ ((∃ idx, i = .invokevirtual idx ∧ ((y = 900 ∧ Cond.methodLink (cn o) idx yJ0_length_8abf5 ∈ gw) ∨ (y = 901 ∧ Cond.methodLink (cn o) idx yJ0_charAt_5068e ∈ gw))) ∨ (∃ idx, i = .invokespecial idx ∧ y = 903 ∧ Cond.methodLink (cn o) idx objectInit ∈ gw) ∨
      (∃ idx, i = .invokestatic idx ∧ ((y = 902 ∧ Cond.methodLink (cn o) idx arraycopyName ∈ gw) ∨ (y = 904 ∧ Cond.methodLink (cn o) idx Lib.Math.max.name ∈ gw) ∨ (y = 905 ∧ Cond.methodLink (cn o) idx Lib.Math.min.name ∈ gw)))))
    (hK : KT p l e s m args below meth c G nL d h0 hf rf cs Ls nx (.inl 0, loc, x.1, x.2)) : WS p l e s m args below meth c G nL d h0 hf rf pc (loc, stk, h) := by
  intro g1 g2 ls H locs hL hr hl
  have g1 : hle h0 h := g1
  have g2 : hle h hf := g2
  have hL : LR G ls nL loc := hL
  have hr : HR G h H := hr
  have hsz : ls.size = nL := hL.2.1
  subst hnx
  have hR : (rm d (hf.2.1 - h0.2.1) (hf.2.2 - h0.2.2)).frames = (d - 1) + 1 ∧ (rm d (hf.2.1 - h0.2.1) (hf.2.2 - h0.2.2)).locals = 64 * ((d - 1) + 1) := by
    have : d - 1 + 1 = d := by omega
    rw [this]; exact ⟨rfl, rfl⟩
  have hW := hK.2.1 rfl
  have c1 : h.2.1 - h0.2.1 ≤ (rm d (hf.2.1 - h0.2.1) (hf.2.2 - h0.2.2)).cells := by show _ ≤ hf.2.1 - h0.2.1; have := g2.1; omega
  have c2 : h.2.2 - h0.2.2 ≤ (rm d (hf.2.1 - h0.2.1) (hf.2.2 - h0.2.2)).slots := by show _ ≤ hf.2.2 - h0.2.2; have := g2.2; omega
  obtain ⟨hdg, hcase⟩ := hcase
  -- the two methods of texts: a call as any other
  have str : ∀ (idx n : Nat) (q9 : CI) (As rest : AL) (j : Nat) (w : Value), decode cc pc = .ok (.invokevirtual idx, 3) → j < 24 → rest.length ≤ 4 → As.length = n → stk = As.reverse ++ .ref (1500000 + j) :: rest → x = (w :: rest, h) → Cond.methodLink (cn o) idx q9.1 ∈ gw → q9.1.cls = "java/lang/String" → Cond.code q9.1 q9.2.1 q9.2.2.1 q9.2.2.2 ∈ gw → Cond.initialized "java/lang/String" ∈ gw → q9.2.2.1 ≤ 45 →
      ((parseMethodDescriptor q9.1.desc).map (fun d => d.parameters.length) = some n) → Cond.instanceMethod q9.1 ∈ gw → Cond.selects "java/lang/String" q9.1 q9.1 ∈ gw → MC l G q9 (d - 1) (.ref (1500000 + j) :: As) h (.inl (some w)) h →
      W p l e (rm d (hf.2.1 - h0.2.1) (hf.2.2 - h0.2.2)) s m args below meth c H locs (h.2.1 - h0.2.1) (h.2.2 - h0.2.2) (QF below args s G h0 hf rf) (F0 m pc ls (stk.map (tv G))) := by
    intro idx n q9 As rest j w hdg hj hrest hn hs hx9 hlk hcl hcode hini hmx hpar hin hsel hM
    subst hs
    subst hx9
    have hh9 : hhOf q9.1 = none := hh_none (by rw [hcl]; decide)
    unfold MC at hM
    rw [cwd_none hh9] at hM
    have hts := C.2.2.2.1
    have hrr : (rm (d - 1) (h.2.1 - h.2.1) (h.2.2 - h.2.2)).frames + 1 ≤ (rm d (hf.2.1 - h0.2.1) (hf.2.2 - h0.2.2)).frames ∧ 8 + (q9.2.2.1 + 11) + (rm (d - 1) (h.2.1 - h.2.1) (h.2.2 - h.2.2)).locals ≤ (rm d (hf.2.1 - h0.2.1) (hf.2.2 - h0.2.2)).locals := by
      constructor
      · show d - 1 + 1 ≤ d; omega
      · show 8 + (q9.2.2.1 + 11) + 64 * (d - 1) ≤ 64 * d; omega
    have hstk : (F0 m pc ls ((As.reverse ++ .ref (1500000 + j) :: rest).map (tv G))).stack = (As.map (tv G)).reverse ++ .ref (gr G (1500000 + j)) :: rest.map (tv G) := by show (As.reverse ++ .ref (1500000 + j) :: rest).map (tv G) = _; rw [List.map_append, List.map_reverse]; rfl
    have hW9 : 2 * (F0 m pc ls ((As.reverse ++ .ref (1500000 + j) :: rest).map (tv G))).monitorRoom + ((rest.map (tv G)).map fun v => v.category).sum ≤ 8 := lv_room (m := m) (pc := pc) (ls := ls) (rest := (As.reverse ++ .ref (1500000 + j) :: rest).map (tv G)) (cat_sum hrest)
    have hpre : PreV s H "java/lang/String" (gr G (1500000 + j)) (Pcs G (.ref (1500000 + j) :: As) h) (As.map (tv G)) := by
      obtain ⟨cell, q1, q2, q3, -⟩ := (C.2.2.2.2.1.2.2.2.2.2.1.1 j hj).1
      refine ⟨Pcs.blind, ⟨cell, ?_, q2, q3⟩, fun U hU hW => ⟨rfl, by rw [hU]; exact hr, C.2.2.2.2.1.warm hW⟩⟩
      have hlt := (Array.getElem?_eq_some_iff.mp q1).1
      rw [hr.2.2.1 _ (by rw [C.2.2.2.2.2.2]; exact hlt)]
      exact q1
    have hgi : GoodIn gw (wsV (cn o) idx "java/lang/String" q9.1 (Cond.code q9.1 q9.2.1 q9.2.2.1 q9.2.2.2 :: gw)) := by
      intro w hw
      unfold wsV at hw
      rcases List.mem_append.mp hw with hw | hw
      · simp only [List.mem_cons, List.not_mem_nil, or_false] at hw
        rcases hw with rfl | rfl | rfl | rfl
        · exact gw_good hlk
        · exact gw_good hin
        · exact gw_good hsel
        · exact gw_good hini
      · exact gw_code hcode w hw
    refine run_go (r := .inl (some w)) (h' := h) (h := h) rfl (vx_runV (fixOf C hml) hM (cwV n hts hgi rfl rfl rfl ⟨hcl, by rw [hcl]; decide, by rw [hcl]; decide, hpar⟩ hrr) hpre rfl (by rw [List.length_map]; exact hn) hsz hstk hW9 hdg ⟨by omega, by omega⟩) hl ⟨fun v hv H' locs' hr' hl' => ?_, fun E hE => by cases hE⟩
    cases hv
    have := hW g1 g2 ls H' locs' hL hr' hl'
    exact W.ofEq (by show (h.2.1 - h0.2.1) + (h.2.1 - h.2.1) = h.2.1 - h0.2.1; omega) (by show (h.2.2 - h0.2.2) + (h.2.2 - h.2.2) = h.2.2 - h0.2.2; omega) this
  rcases hcase with ⟨idx, rfl, ⟨rfl, hlk⟩ | ⟨rfl, hlk⟩⟩ | ⟨idx, rfl, rfl, hlk⟩ | ⟨idx, rfl, ⟨rfl, hlk⟩ | ⟨rfl, hlk⟩ | ⟨rfl, hlk⟩⟩
  · unfold jdkO at hx
    simp only at hx
    split at hx
    · rename_i a r
      split at hx
      · rename_i hc
        cases hx
        obtain ⟨j, rfl⟩ : ∃ j, a = 1500000 + j := ⟨a - 1500000, (Nat.add_sub_cancel' hc.1).symm⟩
        have hj : j < 24 := Nat.lt_of_add_lt_add_left (show 1500000 + j < 1500000 + 24 from hc.2.1)
        have ej : 1500000 + j - 1500000 = j := Nat.add_sub_cancel_left _ _
        rw [ej] at hK hW str
        exact str idx 0 (yJ0_length_8abf5, cJ0_length_8abf5, 1, some .int) [] r j _ hdg hj hc.2.2 rfl rfl rfl hlk rfl (gw_in (by decide +kernel) rfl) (gw_in (by decide +kernel) rfl) (by decide) (by decide +kernel) (gw_in (by decide +kernel) rfl) (gw_in (by decide +kernel) rfl) ((hJ.2 (d - 1) (by omega)).1 j h hj)
      · cases hx
    · cases hx
  · unfold jdkO at hx
    simp only at hx
    split at hx
    · rename_i i9 a r
      split at hx
      · rename_i hc
        cases hx
        obtain ⟨j, rfl⟩ : ∃ j, a = 1500000 + j := ⟨a - 1500000, (Nat.add_sub_cancel' hc.1).symm⟩
        have hj : j < 24 := Nat.lt_of_add_lt_add_left (show 1500000 + j < 1500000 + 24 from hc.2.1)
        have ej : 1500000 + j - 1500000 = j := Nat.add_sub_cancel_left _ _
        rw [ej] at hc hK hW str
        exact str idx 1 (yJ0_charAt_5068e, cJ0_charAt_5068e, 2, some .char) [.int i9] r j _ hdg hj hc.2.2.1 rfl rfl rfl hlk rfl (gw_in (by decide +kernel) rfl) (gw_in (by decide +kernel) rfl) (by decide) (by decide +kernel) (gw_in (by decide +kernel) rfl) (gw_in (by decide +kernel) rfl) ((hJ.2 (d - 1) (by omega)).2 j i9 h hj hc.2.2.2)
      · cases hx
    · cases hx
  · unfold jdkO at hx
    simp only at hx
    split at hx
    · rename_i a r
      split at hx
      · rename_i hc
        cases hx
        exact obj_ok C hml hsz hlk hc hR hdg (hW g1 g2 ls H locs hL hr hl)
      · cases hx
    · cases hx
  · unfold jdkO at hx
    simp only at hx
    split at hx
    · rename_i n dp b sp a r
      split at hx
      · rename_i n0 f n1 g e1 e2
        split at hx
        · cases hx
        · rename_i hc
          cases hx
          obtain ⟨a1, a2⟩ := iAt_inv e1
          obtain ⟨b1, b2⟩ := iAt_inv e2
          exact cpy_ok C hml hsz hr hl hlk (by omega) hR hdg a1 a2 b1 b2 (fun z => hc (Or.inl z)) (fun z => hc (Or.inr (Or.inl z))) (fun z => hc (Or.inr (Or.inr (Or.inl z)))) (by omega) (by omega) (fun H' locs' hr' hl' => hW g1 g2 ls H' locs' hL hr' hl')
      · cases hx
    · cases hx
  · unfold jdkO at hx
    simp only at hx
    split at hx
    · rename_i y x9 r
      split at hx
      · rename_i hc
        cases hx
        exact max_ok C hml hsz hlk hc hR c1 c2 hdg (hW g1 g2 ls H locs hL hr hl)
      · cases hx
    · cases hx
  · unfold jdkO at hx
    simp only at hx
    split at hx
    · rename_i y x9 r
      split at hx
      · rename_i hc
        cases hx
        exact min_ok C hml hsz hlk hc hR c1 c2 hdg (hW g1 g2 ls H locs hL hr hl)
      · cases hx
    · cases hx
end LEAFOK
