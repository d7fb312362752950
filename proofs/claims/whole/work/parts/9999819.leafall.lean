/-! ===== every instruction ===== -/
theorem nest_on {w : Cond} (h : w ∈ nestW) : w.onTables = true := by
  have hn := (List.mem_filter.mp h).2
  cases w <;> first | rfl | (cases hn; done)
theorem gw_ot {w : Cond} (h : w ∈ gw) : vx_ot w = true := by
  unfold vx_ot
  rw [(List.mem_filter.mp h).2, Bool.or_true]
theorem room3 {a b c d : Nat} (h1 : a ≤ b) (h2 : b ≤ c) (h3 : c ≤ d) : (b - a) + (c - b) ≤ d - a := by omega
theorem roomP {a b f k : Nat} (h : a ≤ b) (e : f = b + k) : (b - a) + k ≤ f - a := by omega
theorem dd100 {d : Nat} (h : 7 ≤ d) : 100 ≤ 64 * d := by omega
section LEAFALL
variable {p : Program} {l : Launch} {e : Env} {s : State} {m : MethodId} {args : Array Value} {below : List Frame} {meth : Method} {c : Code}
variable {G : GG} {cc : ByteArray} {o nL d : Nat} {h0 hf : AH} {rf : Option Value ⊕ Nat} {rt : Option FieldType} {cs : List (Nat × Nat)}
variable {mI : Nat → Option CI} {th : Nat → Bool} {wr : Bool} {Ls : List Nat} {pc nx : Nat} {i : Instr} {ds : List Nat} {st : AS} {q : AO × AS} {call : CF} {Lt : Nat → Prop}
/-- what is known of the calls -/
def CallsOK (l : Launch) (G : GG) (mI : Nat → Option CI) (th : Nat → Bool) (d : Nat) (call : CF) : Prop := ∀ (y : Nat) (qi : CI) (as : List Value) (h : AH) (r : Option Value ⊕ Nat) (h' : AH), call y as h = some (r, h') → mI y = some qi → MC l G qi (d - 1) as h r h' ∧ (th y = true ∨ ∃ v, r = .inl v) ∧ hle h h'
theorem cnd_split {cn : Jvm.ClassFile.Cond} {x y : Int32} {H : Heap} {locs : List Loc} {R : Room} {cells slots : Nat} {Q : State → Prop} {ls : Array Slot} {rest : List Value} {off : Int} {t : Nat} (hx : p.tables.exec = Jvm.exec) (hb : c.code = cc) (hd : decode cc pc = .ok (.if_icmp cn off, 3)) (ht : (pc : Int) + off = (t : Int))
    (kt : cnd cn x y = true → W p l e R s m args below meth c H locs cells slots Q (F0 m t ls rest)) (kf : cnd cn x y = false → W p l e R s m args below meth c H locs cells slots Q (F0 m (pc + 3) ls rest)) : W p l e R s m args below meth c H locs cells slots Q (F0 m pc ls (.int y :: .int x :: rest)) := by
  cases cn
  · exact lv_icmp_eq hx hb hd ht (fun z => kt (decide_eq_true z)) (fun z => kf (decide_eq_false z))
  · exact lv_icmp_ne hx hb hd ht (fun z => kt (decide_eq_true z)) (fun z => kf (decide_eq_false (fun w => w z)))
  · exact lv_icmp_lt hx hb hd ht (fun z => kt (decide_eq_true z)) (fun z => kf (decide_eq_false z))
  · exact lv_icmp_ge hx hb hd ht (fun z => kt (decide_eq_true z)) (fun z => kf (decide_eq_false z))
  · exact lv_icmp_gt hx hb hd ht (fun z => kt (decide_eq_true z)) (fun z => kf (decide_eq_false z))
  · exact lv_icmp_le hx hb hd ht (fun z => kt (decide_eq_true z)) (fun z => kf (decide_eq_false z))
theorem cnd0_split {cn : Jvm.ClassFile.Cond} {x : Int32} {H : Heap} {locs : List Loc} {R : Room} {cells slots : Nat} {Q : State → Prop} {ls : Array Slot} {rest : List Value} {off : Int} {t : Nat} (hx : p.tables.exec = Jvm.exec) (hb : c.code = cc) (hd : decode cc pc = .ok (.ifCond cn off, 3)) (ht : (pc : Int) + off = (t : Int))
    (kt : cnd cn x 0 = true → W p l e R s m args below meth c H locs cells slots Q (F0 m t ls rest)) (kf : cnd cn x 0 = false → W p l e R s m args below meth c H locs cells slots Q (F0 m (pc + 3) ls rest)) : W p l e R s m args below meth c H locs cells slots Q (F0 m pc ls (.int x :: rest)) := by
  cases cn
  · exact lv_if_eq hx hb hd ht (fun z => kt (decide_eq_true z)) (fun z => kf (decide_eq_false z))
  · exact lv_if_ne hx hb hd ht (fun z => kt (decide_eq_true z)) (fun z => kf (decide_eq_false (fun w => w z)))
  · exact lv_if_lt hx hb hd ht (fun z => kt (decide_eq_true z)) (fun z => kf (decide_eq_false z))
  · exact lv_if_ge hx hb hd ht (fun z => kt (decide_eq_true z)) (fun z => kf (decide_eq_false z))
  · exact lv_if_gt hx hb hd ht (fun z => kt (decide_eq_true z)) (fun z => kf (decide_eq_false z))
  · exact lv_if_le hx hb hd ht (fun z => kt (decide_eq_true z)) (fun z => kf (decide_eq_false z))
set_option maxHeartbeats 8000000 in
theorem leaf_ok (C : CX G p s m args c cc o) (hml : c.maxLocals = nL) (hret : meth.sig.returnType = rt) (hlocks : meth.locks = false) (hr0 : HR G h0 s.heap) (hd : 7 ≤ d) (hst : l.stackTraces = false) (hout : wr = false → ∀ x ∈ c.exceptionTable.toList, False) (hcs : wr = false → cs = []) (hJ : JS l G) (hC : CallsOK l G mI th d call) (hTH : TH p l e s m args below meth c G nL d h0 hf rf cs cc Lt) (hLt : isCallI i = true → Lt pc)
    (hX : LX s args meth cc mI th o rt wr Ls pc i ds nx) (he : leafR call i ds st = some q) (hK : KT p l e s m args below meth c G nL d h0 hf rf cs Ls nx q) : WS p l e s m args below meth c G nL d h0 hf rf pc st := by
  have hR : (rm d (hf.2.1 - h0.2.1) (hf.2.2 - h0.2.2)).frames = (d - 1) + 1 ∧ (rm d (hf.2.1 - h0.2.1) (hf.2.2 - h0.2.2)).locals = 64 * ((d - 1) + 1) := by
    have : d - 1 + 1 = d := by omega
    rw [this]; exact ⟨rfl, rfl⟩
  rcases leafR_inv he with ⟨x, hx, rfl⟩ | ⟨x, hx, rfl⟩ | hctl
  · obtain ⟨hdg, rfl, -⟩ := hX.plain (sop_plain hx)
    intro g1 g2 ls H locs hL hr hl
    exact sop_ok C.1 C.2.1 hdg hx hL (fun ls' hL' => hK.2.1 rfl g1 g2 ls' H locs hL' hr hl)
  · obtain ⟨hdg, rfl, hlk, -⟩ := hX.plain (hop_plain hx)
    intro g1 g2 ls H locs hL hr hl
    have g3 := hop_le hx
    have g4 : hle x.2 hf := hK.1
    exact hop_ok C hdg hlk hx hr hl (sub_tr g1.1 g3.1) (sub_tr g1.2 g3.2) (Nat.sub_le_sub_right g4.1 _) (Nat.sub_le_sub_right g4.2 _) (fun H' locs' hr' hl' => hK.2.1 rfl (g1.tr g3) g4 ls H' locs' hL hr' hl')
  · have bt : ∀ {off : Int} {k : Nat} {st' : AS}, BT Ls pc off k → q = (.inl (k + 1), st') → ∃ t : Nat, (pc : Int) + off = (t : Int) ∧ WS p l e s m args below meth c G nL d h0 hf rf t st' := fun {off k st'} hb hq => by
      subst hq
      obtain ⟨t, h1, h2⟩ := hb
      exact ⟨t, h2, hK.2.2.1 k t rfl h1⟩
    have btF : ∀ {st' : AS}, q = (.inl 0, st') → WS p l e s m args below meth c G nL d h0 hf rf nx st' := fun {st'} hq => by
      subst hq
      exact hK.2.1 rfl
    unfold CTL at hctl
    split at hctl
    · obtain ⟨hdg, rfl, -, hb⟩ := hX.plain rfl
      obtain ⟨k, rfl, hq⟩ := hctl
      obtain ⟨t, ht, hw⟩ := bt (hb k rfl) hq
      intro g1 g2 ls H locs hL hr hl
      exact lv_goto C.1 C.2.1 hdg ht (hw g1 g2 ls H locs hL hr hl)
    · obtain ⟨hdg, rfl, -, hb⟩ := hX.plain rfl
      obtain ⟨k, loc, x, r, h, rfl, rfl, hq⟩ := hctl
      intro g1 g2 ls H locs hL hr hl
      obtain ⟨t, h1, h2⟩ := hb k rfl
      refine cnd0_split C.1 C.2.1 hdg h2 (fun z => ?_) (fun z => ?_)
      · rcases hq with ⟨-, hq⟩ | ⟨z', -⟩
        · subst hq; exact hK.2.2.1 k t rfl h1 g1 g2 ls H locs hL hr hl
        · rw [z] at z'; cases z'
      · rcases hq with ⟨z', -⟩ | ⟨-, hq⟩
        · rw [z] at z'; cases z'
        · exact btF hq g1 g2 ls H locs hL hr hl
    · obtain ⟨hdg, rfl, -, hb⟩ := hX.plain rfl
      obtain ⟨k, loc, y, x, r, h, rfl, rfl, hq⟩ := hctl
      intro g1 g2 ls H locs hL hr hl
      obtain ⟨t, h1, h2⟩ := hb k rfl
      refine cnd_split C.1 C.2.1 hdg h2 (fun z => ?_) (fun z => ?_)
      · rcases hq with ⟨-, hq⟩ | ⟨z', -⟩
        · subst hq; exact hK.2.2.1 k t rfl h1 g1 g2 ls H locs hL hr hl
        · rw [z] at z'; cases z'
      · rcases hq with ⟨z', -⟩ | ⟨-, hq⟩
        · rw [z] at z'; cases z'
        · exact btF hq g1 g2 ls H locs hL hr hl
    · obtain ⟨hdg, rfl, -, hb⟩ := hX.plain rfl
      obtain ⟨k, loc, r, h, rfl, ⟨rfl, hq⟩ | ⟨a, rfl, hq⟩⟩ := hctl
      · obtain ⟨t, ht, hw⟩ := bt (hb k rfl) hq
        intro g1 g2 ls H locs hL hr hl
        exact lv_ifnullN C.1 C.2.1 hdg ht (hw g1 g2 ls H locs hL hr hl)
      · intro g1 g2 ls H locs hL hr hl
        exact lv_ifnull C.1 C.2.1 hdg (btF hq g1 g2 ls H locs hL hr hl)
    · obtain ⟨hdg, rfl, -, hb⟩ := hX.plain rfl
      obtain ⟨k, loc, r, h, rfl, ⟨rfl, hq⟩ | ⟨a, rfl, hq⟩⟩ := hctl
      · intro g1 g2 ls H locs hL hr hl
        exact lv_ifnonnullN C.1 C.2.1 hdg (btF hq g1 g2 ls H locs hL hr hl)
      · obtain ⟨t, ht, hw⟩ := bt (hb k rfl) hq
        intro g1 g2 ls H locs hL hr hl
        exact lv_ifnonnull C.1 C.2.1 hdg ht (hw g1 g2 ls H locs hL hr hl)
    · obtain ⟨kd, ks, loc, x, r, h, rfl, rfl, hq⟩ := hctl
      rcases hX with ⟨z, -⟩ | ⟨z, -⟩ | ⟨len, kd', ks', hdg, -, hds, hbd, hbk⟩
      · cases z
      · cases z
      · cases hds
        intro g1 g2 ls H locs hL hr hl
        rcases hq with ⟨hx, hq⟩ | ⟨hx, k, hk, hq⟩
        · obtain ⟨t, ht, hw⟩ := bt hbd hq
          exact lv_tableOut C.1 C.2.1 hdg hx ht (hw g1 g2 ls H locs hL hr hl)
        · obtain ⟨off, hoff, hb⟩ := hbk _ k hk
          obtain ⟨t, ht, hw⟩ := bt hb hq
          exact lv_tableIn C.1 C.2.1 hdg (fun z => hx (Or.inl z)) (fun z => hx (Or.inr z)) hoff ht (hw g1 g2 ls H locs hL hr hl)
    · obtain ⟨kd, ks, loc, x, r, h, rfl, rfl, hq⟩ := hctl
      rcases hX with ⟨z, -⟩ | ⟨z, -⟩ | ⟨len, kd', ks', hdg, -, hds, hbd, hsort, hno, hyes⟩
      · cases z
      · cases z
      · cases hds
        intro g1 g2 ls H locs hL hr hl
        rcases hq with ⟨hx, hq⟩ | ⟨j, k, hj, hk, hq⟩
        · obtain ⟨t, ht, hw⟩ := bt hbd hq
          exact lv_lookup C.1 C.2.1 hdg hsort (hno x hx) ht (hw g1 g2 ls H locs hL hr hl)
        · obtain ⟨t, ht, hw⟩ := bt (hyes x j k hj hk) hq
          exact lv_lookup C.1 C.2.1 hdg hsort rfl ht (hw g1 g2 ls H locs hL hr hl)
    · obtain ⟨hdg, rfl, -, hb⟩ := hX.plain rfl
      obtain ⟨loc, x, h, rfl, rfl, hx⟩ := hctl
      obtain ⟨k1, k2⟩ := hK.2.2.2 _ rfl
      have k2 : hf = h := k2
      subst k2
      intro g1 g2 ls H locs hL hr hl
      refine vx_ret ?_
      rcases hx with rfl | ⟨rfl, hx⟩
      · exact W.iret (v := x) C.1 C.2.1 (by rw [hret]; exact hb.1 rfl) (fun t ht _ => ⟨⟨_, k1, rfl⟩, by rw [ht]; exact hr⟩) hl hdg
      · exact W.zret (ty := .boolean) (v := x) C.1 C.2.1 (by rw [hret]; exact hb.2 rfl) (by rcases hx with rfl | rfl <;> decide +kernel) (fun t ht _ => ⟨⟨_, k1, rfl⟩, by rw [ht]; exact hr⟩) hl hdg
    · obtain ⟨hdg, rfl, -, hb⟩ := hX.plain rfl
      obtain ⟨loc, x, h, rfl, rfl⟩ := hctl
      obtain ⟨k1, k2⟩ := hK.2.2.2 _ rfl
      have k2 : hf = h := k2
      subst k2
      intro g1 g2 ls H locs hL hr hl
      refine vx_ret ?_
      exact W.lret (v := x) C.1 C.2.1 (by rw [hret]; exact hb) (fun t ht _ => ⟨⟨_, k1, rfl⟩, by rw [ht]; exact hr⟩) hl hdg
    · obtain ⟨hdg, rfl, -, hb⟩ := hX.plain rfl
      obtain ⟨loc, h, rfl, rfl⟩ := hctl
      obtain ⟨k1, k2⟩ := hK.2.2.2 _ rfl
      have k2 : hf = h := k2
      subst k2
      intro g1 g2 ls H locs hL hr hl
      refine vx_ret ?_
      exact W.vret C.1 C.2.1 (by rw [hret]; exact hb) (fun t ht _ => ⟨⟨_, k1, rfl⟩, by rw [ht]; exact hr⟩) hl hdg
    · obtain ⟨hdg, rfl, -, hb⟩ := hX.plain rfl
      obtain ⟨loc, r, h, rfl, ⟨v, rfl, hq⟩ | ⟨j, rfl, hq⟩⟩ := hctl
      · intro g1 g2 ls H locs hL hr hl
        exact lv_ldc C.1 C.2.1 C.2.2.1 (C.2.2.2.1 _ (hb.1 v rfl)) hdg (btF hq g1 g2 ls H locs hL hr hl)
      · intro g1 g2 ls H locs hL hr hl
        exact va_ldcS C.1 C.2.1 C.2.2.1 (C.2.2.2.2.1.2.2.2.2.2.2.1 _ (hb.2 j rfl)) hdg (btF hq g1 g2 ls H locs hL hr hl)
    · obtain ⟨hdg, rfl, -, hb⟩ := hX.plain rfl
      obtain ⟨loc, r, h, v, rfl, rfl, hq⟩ := hctl
      intro g1 g2 ls H locs hL hr hl
      exact lv_ldcw C.1 C.2.1 C.2.2.1 (C.2.2.2.1 _ (hb v rfl)) hdg (btF hq g1 g2 ls H locs hL hr hl)
    · obtain ⟨hdg, rfl, -, hb⟩ := hX.plain rfl
      obtain ⟨loc, r, h, v, rfl, rfl, hq⟩ := hctl
      intro g1 g2 ls H locs hL hr hl
      exact lv_ldc2 C.1 C.2.1 C.2.2.1 (C.2.2.2.1 _ (hb v rfl)) hdg (btF hq g1 g2 ls H locs hL hr hl)
    · obtain ⟨E, loc, h, rfl, rfl, hh, rfl⟩ := hctl
      rcases hX with ⟨z, -⟩ | ⟨-, hwr, -, ht⟩ | z
      · cases z
      · obtain ⟨ik, is, ic, d0, d3, d4, d6, d9, w1⟩ := ht E rfl
        obtain ⟨k1, k2⟩ := hK.2.2.2 _ rfl
        have k2 : hf = hnew h (.inr (99, [])) 6 := k2
        rw [hcs hwr] at k1
        have k1 : rf = .inr E := k1
        intro g1 g2 ls H locs hL hr hl
        have g1 : hle h0 h := g1
        have hr : HR G h H := hr
        have e1 : hf.2.1 = h.2.1 + 1 := by rw [k2]; rfl
        have e2 : hf.2.2 = h.2.2 + 6 := by rw [k2]; rfl
        have hs0 : va_S (gF G) s.heap H locs := HR.S hr0 hr g1.1 hl
        have hkp : ∀ a : Nat, a < (gH G).size → ¬ gF G a → s.heap[a]? = (gH G)[a]? := fun a _ ha => hr0.2.2.1 a (Nat.not_le.mp ha)
        exact hJ.1 p e _ s m args below meth c H locs _ _ cc pc ls o ik is ic E _ _ _ _ C w1 hs0 hkp (by rw [hml]; exact hL.2.1) d0 d3 d4 d6 d9 (hout hwr) hd (dd100 hd) (roomP g1.1 e1) (roomP g1.2 e2) hlocks (fun t z1 z2 => ⟨⟨E, k1, rfl⟩, by rw [k2]; exact hr.push hh z1 z2 (Or.inl rfl)⟩) hl (roomP g1.1 e1) (roomP g1.2 e2)
      · exact z.elim
    · obtain ⟨hdg, rfl, -, hb⟩ := hX.plain rfl
      rcases hctl with ⟨y, n, ci, loc, As, b, fs, rest, h, rfl, rfl, hn, ho, hrest, hcr⟩ | ⟨y, loc, stk, h, x, rfl, rfl, hx, rfl⟩
      · obtain ⟨r, h', hcl, hq⟩ := callR_inv hcr
        obtain ⟨qi, Cn, T, N, hm, hCK, hvc, hcls, hin, hsel, hh9, hlk⟩ := hb.1 y n ci rfl
        obtain ⟨hM, hth, hle1⟩ := hC y qi _ h r h' hcl hm
        intro g1 g2 ls H locs hL hr hl
        have g4 : hle h' hf := by rcases hq with ⟨v, -, rfl⟩ | ⟨E, -, rfl⟩ <;> exact hK.1
        have g1 : hle h0 h := g1
        refine callV_ok hh9 C hml hr hl hL.2.1 hCK hvc hcls hin hsel (oAt_inv ho).1 (oAt_inv ho).2 hM ?_ hn hrest hdg hR ⟨room3 g1.1 hle1.1 g4.1, room3 g1.2 hle1.2 g4.2⟩ (KT.call hL g1 hle1 rfl hTH (hLt rfl) hK hq)
        rcases hlk with z | z
        · rcases hth with z' | z'
          · rw [z] at z'; cases z'
          · exact Or.inl z'
        · exact Or.inr z
      · exact jdk_ok C hml hd hJ hx rfl ⟨hdg, Or.inl ⟨_, rfl, hb.2 y rfl⟩⟩ hK
    · obtain ⟨hdg, rfl, -, hb⟩ := hX.plain rfl
      rcases hctl with ⟨y, n, loc, As, b, rest, h, rfl, rfl, hn, hrest, hcr⟩ | ⟨y, loc, stk, h, x, rfl, rfl, hx, rfl⟩
      · obtain ⟨r, h', hcl, hq⟩ := callR_inv hcr
        obtain ⟨qi, hm, hCK, hin, hnm, hrn, hh9, hlk⟩ := hb.1 y n rfl
        obtain ⟨hM, hth, hle1⟩ := hC y qi _ h r h' hcl hm
        obtain ⟨v, rfl⟩ : ∃ v, r = .inl v := by
          rcases hth with z' | z'
          · rw [hlk] at z'; cases z'
          · exact z'
        intro g1 g2 ls H locs hL hr hl
        have g4 : hle h' hf := by rcases hq with ⟨v, -, rfl⟩ | ⟨E, -, rfl⟩ <;> exact hK.1
        have g1 : hle h0 h := g1
        exact callI_ok hh9 C hml hr hl hL.2.1 hCK hin hnm hrn hM hn hrest hdg hR ⟨room3 g1.1 hle1.1 g4.1, room3 g1.2 hle1.2 g4.2⟩ (KT.call hL g1 hle1 rfl hTH (hLt rfl) hK hq)
      · exact jdk_ok C hml hd hJ hx rfl ⟨hdg, Or.inr (Or.inl ⟨_, rfl, hb.2 y rfl⟩)⟩ hK
    · obtain ⟨hdg, rfl, -, hb⟩ := hX.plain rfl
      rcases hctl with ⟨y, n, loc, As, rest, h, rfl, rfl, hn, hrest, hcr⟩ | ⟨y, loc, stk, h, x, rfl, rfl, hx, rfl⟩
      · obtain ⟨r, h', hcl, hq⟩ := callR_inv hcr
        obtain ⟨qi, hm, hCK, hst9, hnh, hlk⟩ := hb.1 y n rfl
        obtain ⟨hM, hth, hle1⟩ := hC y qi _ h r h' hcl hm
        intro g1 g2 ls H locs hL hr hl
        have g4 : hle h' hf := by rcases hq with ⟨v, -, rfl⟩ | ⟨E, -, rfl⟩ <;> exact hK.1
        have g1 : hle h0 h := g1
        refine callS_ok C hml hr hl hL.2.1 hCK hst9 hnh hM ?_ hn hrest hdg hR ⟨room3 g1.1 hle1.1 g4.1, room3 g1.2 hle1.2 g4.2⟩ (KT.call hL g1 hle1 rfl hTH (hLt rfl) hK hq)
        rcases hlk with z | z
        · rcases hth with z' | z'
          · rw [z] at z'; cases z'
          · exact Or.inl z'
        · exact Or.inr z
      · exact jdk_ok C hml hd hJ hx rfl ⟨hdg, Or.inr (Or.inr ⟨_, rfl, hb.2 y rfl⟩)⟩ hK
    · exact hctl.elim
end LEAFALL
