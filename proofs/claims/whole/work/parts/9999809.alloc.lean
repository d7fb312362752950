/-! ===== lengths, the script, and what is made ===== -/
section ALC
variable {p : Program} {l : Launch} {e : Env} {R : Room} {s : State} {m : MethodId} {args : Array Value} {below : List Frame} {meth : Method} {c : Code} {H : Heap} {locs : List Loc} {cells slots : Nat} {Q : State → Prop}
variable {G : GG} {cc : ByteArray} {pc : Nat} {ls : Array Slot} {o : Nat} {h : AH}
theorem sc_at (C : CX G p s m args c cc o) (hr : HR G h H) : ∃ scr : Cell, H[gr G 2000000]? = some scr ∧ s.isArrayOf scr .int ∧ scr.vm ≠ .unknown ∧ scr.slots.size = gL G ∧ ∀ j : Nat, j < gL G → scr.slots[j]? = some (.int (gX G j)) := by
  obtain ⟨hx, hb, hown, hts, hB, hG⟩ := C
  obtain ⟨scr, h1, h2, h3, h4, h5⟩ := hB.2.1
  refine ⟨scr, ?_, h2, h3, h4, h5⟩
  rw [hr.2.2.1 _ (by rw [hG.2]; exact (Array.getElem?_eq_some_iff.mp h1).1)]
  exact h1
theorem scl_ok {n : Nat} {i : Int32} {r : AL} {f : Nat → Int32} (C : CX G p s m args c cc o) (hr : HR G h H) (he : h.1 2000000 = .inl (77, n, .inl f)) (hin : ¬ (i < 0 ∨ n ≤ i.toNatClampNeg)) (hd : decode cc pc = .ok (.iaload, 1))
    (kk : W p l e R s m args below meth c H locs cells slots Q (F0 m (pc + 1) ls ((Value.int (f i.toNatClampNeg) :: r).map (tv G)))) : W p l e R s m args below meth c H locs cells slots Q (F0 m pc ls ((Value.int i :: Value.ref 2000000 :: r).map (tv G))) := by
  obtain ⟨scr, h1, h2, h3, h4, h5⟩ := sc_at C hr
  have e1 := hr.2.2.2.1.symm.trans he
  cases e1
  have hlt : i.toNatClampNeg < gL G := Nat.not_le.mp fun q => hin (Or.inr q)
  exact W.iald (v := .int (gX G i.toNatClampNeg)) C.1 C.2.1 h1 h2 h3 (by rw [h4]; exact hin) (h5 _ hlt) rfl rfl hd kk
theorem scn_ok {n : Nat} {r : AL} {f : Nat → Int32} (C : CX G p s m args c cc o) (hr : HR G h H) (he : h.1 2000000 = .inl (77, n, .inl f)) (hd : decode cc pc = .ok (.arraylength, 1))
    (kk : W p l e R s m args below meth c H locs cells slots Q (F0 m (pc + 1) ls ((Value.int (Int32.ofNat n) :: r).map (tv G)))) : W p l e R s m args below meth c H locs cells slots Q (F0 m pc ls ((Value.ref 2000000 :: r).map (tv G))) := by
  obtain ⟨scr, h1, h2, h3, h4, h5⟩ := sc_at C hr
  have e1 := hr.2.2.2.1.symm.trans he
  cases e1
  exact W.alen (n := Int32.ofNat (gL G)) C.1 C.2.1 h1 h2 (by rw [h4] <;> rfl) rfl rfl hd kk
theorem aln_ok {a t n : Nat} {r : AL} {x : (Nat → Int32) ⊕ (Nat → Int64) ⊕ (Nat → UInt32) ⊕ (Nat → UInt64) ⊕ (Nat → Option Nat)} (C : CX G p s m args c cc o) (hr : HR G h H) (ha : a < h.2.1) (he : h.1 a = .inl (t, n, x)) (ht : t < 5) (hd : decode cc pc = .ok (.arraylength, 1))
    (kk : W p l e R s m args below meth c H locs cells slots Q (F0 m (pc + 1) ls ((Value.int (Int32.ofNat n) :: r).map (tv G)))) : W p l e R s m args below meth c H locs cells slots Q (F0 m pc ls ((Value.ref a :: r).map (tv G))) := by
  obtain ⟨hx, hb, hown, hts, hB, hG⟩ := C
  obtain ⟨y, ey⟩ : ∃ y : vp_A, y.1 = n ∧ tE G (.inl (t, n, x)) = .inl (gA G t, y) := by
    rcases x with x | x | x | x | x <;> exact ⟨(n, _), rfl, rfl⟩
  have hP := P1 (hr.get hG ha he (by rfl))
  rw [ey.2] at hP
  have htt : t = 0 ∨ t = 1 ∨ t = 2 ∨ t = 3 ∨ t = 4 := by omega
  rcases htt with rfl | rfl | rfl | rfl | rfl
  · exact va_alen hx hb hB.1 hP 0 0 rfl rfl (by rw [ey.1]) hd kk
  · exact va_alen hx hb hB.1 hP 0 1 rfl rfl (by rw [ey.1]) hd kk
  · exact va_alen hx hb hB.1 hP 0 2 rfl rfl (by rw [ey.1]) hd kk
  · exact va_alen hx hb hB.1 hP 0 3 rfl rfl (by rw [ey.1]) hd kk
  · exact va_alen hx hb hB.1 hP 0 4 rfl rfl (by rw [ey.1]) hd kk
theorem grn (hG : GOK G) (hr : HR G h H) : gr G h.2.1 = H.size := by rw [hG.1 _ hr.2.1, hr.1]
theorem new_ok {idx ci : Nat} {r : AL} (C : CX G p s m args c cc o) (hr : HR G h H) (hl : h.2.1 < 1000000) (hc : ∃ Cn T, vwCl[ci]? = some (Cn, T, clN ci) ∧ (Cond.classLink (cn o) idx Cn).before args s = true) (hd : decode cc pc = .ok (.new idx, 3)) (hcells : cells + 1 ≤ R.cells) (hslots : slots + clN ci ≤ R.slots)
    (kk : ∀ H' : Heap, HR G (hnew h (.inr (ci, dfl ci)) (clN ci)) H' → W p l e R s m args below meth c H' locs (cells + 1) (slots + clN ci) Q (F0 m (pc + 3) ls ((Value.ref h.2.1 :: r).map (tv G)))) : W p l e R s m args below meth c H locs cells slots Q (F0 m pc ls (r.map (tv G))) := by
  have hg := grn C.2.2.2.2.2 hr
  obtain ⟨hx, hb, hown, hts, hB, hG⟩ := C
  obtain ⟨Cn, T, hc, hlk⟩ := hc
  obtain ⟨hin, hty, -, hins, hini⟩ := clOK_all hc
  have hKn := hB.1.1 ci _ hc
  refine W.newcK hx hb hown hlk (hts _ hins) (hts _ hini) rfl hd hcells hslots hKn.2.1 rfl fun H1 kC hkC e1 z1 o1 => ?_
  have h2 := kk H1 (hr.push hl z1 o1 (Or.inr ?_))
  · have e9 : (Value.ref h.2.1 :: r).map (tv G) = .ref H.size :: r.map (tv G) := by show Value.ref (gr G h.2.1) :: _ = _; rw [hg]
    rw [e9] at h2
    exact h2
  · rw [← hr.1]
    refine ⟨_, hc, (u_born (clTy ci) hts hin hKn hkC e1 hty).to fun k hk => ?_⟩
    show _ = vp_V ((dfl ci).map (tv G)) k
    have e2 : (dfl ci)[k]? = some (defaultValue (clTy ci k)) := by
      unfold dfl
      rw [List.getElem?_map, List.getElem?_range hk]
      rfl
    have e3 : ((dfl ci).map (tv G))[k]? = some (tv G (defaultValue (clTy ci k))) := by rw [List.getElem?_map, e2]; rfl
    have e4 : tv G (defaultValue (clTy ci k)) = defaultValue (clTy ci k) := by cases clTy ci k <;> rfl
    simp [vp_V, e3, e4, List.getD_eq_getElem?_getD]
theorem ac_int : Cond.arrayClass .int ∈ gw := gw_in (by decide +kernel) rfl
theorem ac_long : Cond.arrayClass .long ∈ gw := gw_in (by decide +kernel) rfl
theorem ac_byte : Cond.arrayClass .byte ∈ gw := gw_in (by decide +kernel) rfl
theorem nwa_ok {at_ : ArrayType} {n : Int32} {r : AL} {ev : va_E} (C : CX G p s m args c cc o) (hr : HR G h H) (hl : h.2.1 < 1000000) (hn : ¬ n < 0) (hn2 : n.toNatClampNeg ≤ 100000) (he : nwA at_ n.toNatClampNeg = some ev) (hd : decode cc pc = .ok (.newarray at_, 2)) (hcells : cells + 1 ≤ R.cells) (hslots : slots + n.toNatClampNeg ≤ R.slots)
    (kk : ∀ H' : Heap, HR G (hnew h ev n.toNatClampNeg) H' → W p l e R s m args below meth c H' locs (cells + 1) (slots + n.toNatClampNeg) Q (F0 m (pc + 2) ls ((Value.ref h.2.1 :: r).map (tv G)))) : W p l e R s m args below meth c H locs cells slots Q (F0 m pc ls ((Value.int n :: r).map (tv G))) := by
  have hg := grn C.2.2.2.2.2 hr
  obtain ⟨hx, hb, hown, hts, hB, hG⟩ := C
  have e9 : (Value.ref h.2.1 :: r).map (tv G) = .ref H.size :: r.map (tv G) := by show Value.ref (gr G h.2.1) :: _ = _; rw [hg]
  rw [e9] at kk
  cases at_ with
  | int =>
    cases he
    refine va_newaK (atype := .int) hx hb (hts _ ac_int) rfl hd rfl hn rfl (by show _ * 4 ≤ _; omega) hcells hslots rfl fun H1 cA e1 z1 o1 hAr hNm => ?_
    have hcA : cA = gA G 0 := Option.some.inj (hNm.symm.trans (hB.1.2 0 _ rfl).2)
    subst hcA
    exact kk H1 (hr.push hl z1 o1 (Or.inr (by rw [← hr.1]; exact e1)))
  | long =>
    cases he
    refine va_newaK (atype := .long) hx hb (hts _ ac_long) rfl hd rfl hn rfl (by show _ * 8 ≤ _; omega) hcells hslots rfl fun H1 cA e1 z1 o1 hAr hNm => ?_
    have hcA : cA = gA G 1 := Option.some.inj (hNm.symm.trans (hB.1.2 1 _ rfl).2)
    subst hcA
    exact kk H1 (hr.push hl z1 o1 (Or.inr (by rw [← hr.1]; exact e1)))
  | byte =>
    cases he
    refine va_newaK (atype := .byte) hx hb (hts _ ac_byte) rfl hd rfl hn rfl (by show _ * 1 ≤ _; omega) hcells hslots rfl fun H1 cA e1 z1 o1 hAr hNm => ?_
    have hcA : cA = gA G 2 := Option.some.inj (hNm.symm.trans (hB.1.2 2 _ rfl).2)
    subst hcA
    exact kk H1 (hr.push hl z1 o1 (Or.inr (by rw [← hr.1]; exact e1)))
  | boolean => cases he
  | char => cases he
  | float => cases he
  | double => cases he
  | short => cases he
theorem nwq_ok {idx : Nat} {n : Int32} {r : AL} (C : CX G p s m args c cc o) (hr : HR G h H) (hl : h.2.1 < 1000000) (hn : ¬ n < 0) (hn2 : n.toNatClampNeg ≤ 100000) (hlk : (Cond.classLink (cn o) idx RX3).before args s = true) (hd : decode cc pc = .ok (.anewarray idx, 3)) (hcells : cells + 1 ≤ R.cells) (hslots : slots + n.toNatClampNeg ≤ R.slots)
    (kk : ∀ H' : Heap, HR G (hnew h (.inl (4, n.toNatClampNeg, .inr (.inr (.inr (.inr (fun _ => none)))))) n.toNatClampNeg) H' → W p l e R s m args below meth c H' locs (cells + 1) (slots + n.toNatClampNeg) Q (F0 m (pc + 3) ls ((Value.ref h.2.1 :: r).map (tv G)))) : W p l e R s m args below meth c H locs cells slots Q (F0 m pc ls ((Value.int n :: r).map (tv G))) := by
  have hg := grn C.2.2.2.2.2 hr
  obtain ⟨hx, hb, hown, hts, hB, hG⟩ := C
  have e9 : (Value.ref h.2.1 :: r).map (tv G) = .ref H.size :: r.map (tv G) := by show Value.ref (gr G h.2.1) :: _ = _; rw [hg]
  rw [e9] at kk
  refine W.anew hx hb hown hlk (va_AO.use hB.2.2.1) rfl hd rfl hn (by omega) hcells hslots fun cA kA comp f1 f2 f3 f4 => ?_
  have hcA : cA = gA G 4 := by
    obtain ⟨_, _, -, -, -, q⟩ := (hB.1.2 4 _ rfl).2
    exact Option.some.inj (f1.symm.trans q)
  subst hcA
  generalize hH1 : H.push ({ cls := gA G 4, slots := Array.replicate n.toNatClampNeg .null, vm := .none } : Cell) = H1
  have z1 : H1.size = H.size + 1 := by rw [← hH1, Array.size_push]
  have e1 : H1[H.size]? = some (arrV (gA G 4) n.toNatClampNeg (fun _ => .null)) := by rw [← hH1, Array.getElem?_push_size, ← arrV_new]
  have o1 : ∀ q : Nat, q < H.size → H1[q]? = H[q]? := fun q hq => by rw [← hH1, Array.getElem?_push, if_neg (Nat.ne_of_lt hq)]
  exact kk H1 (hr.push hl z1 o1 (Or.inr (by rw [← hr.1]; exact e1)))
theorem mna_ok {idx : Nat} {n k : Int32} {r : AL} (C : CX G p s m args c cc o) (hr : HR G h H) (hl : h.2.1 + (1 + n.toNatClampNeg) ≤ 1000000) (hn : ¬ n < 0) (hk : ¬ k < 0) (hn2 : n.toNatClampNeg ≤ 100000) (hk2 : k.toNatClampNeg ≤ 100000) (hlk : (Cond.classLink (cn o) idx "[[I").before args s = true) (hd : decode cc pc = .ok (.multianewarray idx 2, 4)) (hcells : cells + (1 + n.toNatClampNeg) ≤ R.cells) (hslots : slots + (n.toNatClampNeg + n.toNatClampNeg * k.toNatClampNeg) ≤ R.slots)
    (kk : ∀ H' : Heap, HR G (hmna h n.toNatClampNeg k.toNatClampNeg) H' → W p l e R s m args below meth c H' locs (cells + (1 + n.toNatClampNeg)) (slots + (n.toNatClampNeg + n.toNatClampNeg * k.toNatClampNeg)) Q (F0 m (pc + 4) ls ((Value.ref h.2.1 :: r).map (tv G)))) : W p l e R s m args below meth c H locs cells slots Q (F0 m pc ls ((Value.int k :: Value.int n :: r).map (tv G))) := by
  have hg := grn C.2.2.2.2.2 hr
  obtain ⟨hx, hb, hown, hts, hB, hG⟩ := C
  have e9 : (Value.ref h.2.1 :: r).map (tv G) = .ref H.size :: r.map (tv G) := by show Value.ref (gr G h.2.1) :: _ = _; rw [hg]
  rw [e9] at kk
  have h0 := hr
  intro T hT Xs
  obtain ⟨vm₁, cA, comp, -, fA, fC, hO, -, X', step⟩ := Xs.multianewarray2F hx hown hlk (va_AOA.use hB.2.2.2.1) (hts _ ac_int) (g := F0 m pc ls (.int k :: .int n :: r.map (tv G))) rfl (by rw [hb]; exact hd) rfl hn hk (by omega) (by show _ * 4 ≤ _; omega) (by omega) rfl rfl hcells hslots
  have hcA : cA = gA G 3 := Option.some.inj (fA.symm.trans (hB.1.2 3 _ rfl).2)
  have hcm : comp = gA G 0 := Option.some.inj (fC.symm.trans (hB.1.2 0 _ rfl).2)
  subst hcA
  subst hcm
  generalize hF : Jvm.Free.Multi.fill (T.setVm vm₁) (gA G 3) (gA G 0) n.toNatClampNeg k.toNatClampNeg (defaultValue .int) n.toNatClampNeg = F at X' step
  have hTh : (T.setVm vm₁).heap = H := hT
  obtain ⟨f1, f2, -, -⟩ := Jvm.Free.Multi.fill_facts (T.setVm vm₁) (gA G 3) (gA G 0) n.toNatClampNeg k.toNatClampNeg (defaultValue .int) n.toNatClampNeg
  rw [hF, hTh] at f1 f2
  have hold : ∀ x : Nat, x < H.size → F.heap[x]? = H[x]? := fun x hx => by
    have := Jvm.Free.Multi.fill_old (T.setVm vm₁) (gA G 3) (gA G 0) n.toNatClampNeg k.toNatClampNeg (defaultValue .int) (a := x) (by rw [hTh]; exact hx) n.toNatClampNeg
    rw [hF, hTh] at this
    exact this
  have hz : Jvm.Free.Multi.innerC (gA G 0) k.toNatClampNeg (defaultValue .int) = vp_cell (gA G 0) (k.toNatClampNeg, .inl (fun _ => 0)) := arrV_new _ _ _
  have hrow : ∀ j : Nat, j < n.toNatClampNeg → F.heap[H.size + 1 + j]? = some (vp_cell (gA G 0) (k.toNatClampNeg, .inl (fun _ => 0))) := fun j hj => by
    have := Jvm.Free.Multi.fill_inner (T.setVm vm₁) (gA G 3) (gA G 0) n.toNatClampNeg k.toNatClampNeg (defaultValue .int) n.toNatClampNeg j hj
    rw [hF, hTh, hz] at this
    exact this
  have hout : Jvm.Free.Multi.outerC (gA G 3) n.toNatClampNeg H.size n.toNatClampNeg = vp_cell (gA G 3) (n.toNatClampNeg, .inr (.inr (.inr (.inr (fun i => if i < n.toNatClampNeg then some (H.size + 1 + i) else none))))) := by
    rw [vp_cell_q]
    exact vr_outer (gA G 3) n.toNatClampNeg H.size n.toNatClampNeg
  rw [hout] at f2
  have hHR : HR G (hmna h n.toNatClampNeg k.toNatClampNeg) F.heap := by
    obtain ⟨h1, h2, h3, h4, h5⟩ := hr
    refine ⟨by rw [f1, h1]; show _ = gb G + (h.2.1 + (1 + n.toNatClampNeg)); omega, hl, fun q hq => (hold q (by omega)).trans (h3 q hq), ?_, fun j hj => ?_⟩
    · show (if 2000000 = h.2.1 then _ else if h.2.1 < 2000000 ∧ 2000000 ≤ h.2.1 + n.toNatClampNeg then _ else h.1 2000000) = _
      rw [if_neg (by omega), if_neg (by omega)]
      exact h4
    · have hj : j < h.2.1 + (1 + n.toNatClampNeg) := hj
      show isOpq (if j = h.2.1 then _ else if h.2.1 < j ∧ j ≤ h.2.1 + n.toNatClampNeg then _ else h.1 j) = true ∨ va_at _ _ (gb G + j, tE G (if j = h.2.1 then _ else if h.2.1 < j ∧ j ≤ h.2.1 + n.toNatClampNeg then _ else h.1 j)) F.heap
      by_cases e1 : j = h.2.1
      · rw [if_pos e1]
        right
        show F.heap[gb G + j]? = some (vp_cell _ _)
        rw [e1, ← h1, f2]
        refine congrArg (fun z => some (vp_cell (gA G 3) (n.toNatClampNeg, .inr (.inr (.inr (.inr z)))))) (funext fun i => ?_)
        show _ = Option.map (gr G) (if i < n.toNatClampNeg then some (h.2.1 + 1 + i) else none)
        by_cases hi : i < n.toNatClampNeg
        · rw [if_pos hi, if_pos hi]
          show some _ = some (gr G (h.2.1 + 1 + i))
          rw [hG.1 _ (by omega), h1]
          congr 1
          omega
        · rw [if_neg hi, if_neg hi]; rfl
      · rw [if_neg e1]
        by_cases e2 : h.2.1 < j ∧ j ≤ h.2.1 + n.toNatClampNeg
        · rw [if_pos e2]
          right
          show F.heap[gb G + j]? = some (vp_cell _ _)
          rw [show gb G + j = H.size + 1 + (j - h.2.1 - 1) by omega]
          exact hrow _ (by omega)
        · rw [if_neg e2]
          exact (h5 j (by omega)).imp id (fun q => q.kept (hold _ (by show gb G + j < H.size; omega)))
  obtain ⟨t, a1, b1⟩ := kk F.heap hHR F rfl (by first | exact X' | simpa [Nat.add_assoc] using X')
  refine ⟨t, step t ?_, b1⟩
  have e : T.heap.size = H.size := by rw [hT]
  rw [e]
  exact a1
end ALC
