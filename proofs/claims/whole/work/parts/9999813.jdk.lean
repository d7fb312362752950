/-! ===== methods of the JDK that are taken whole ===== -/
theorem jw_obj1 : Cond.instanceMethod objectInit ∈ gw := gw_in (by decide +kernel) rfl
theorem jw_obj2 : Cond.code objectInit ⟨#[0xb1]⟩ 1 none ∈ gw := gw_in (by decide +kernel) rfl
theorem jw_max1 : Cond.static Lib.Math.max.name ∈ gw := gw_in (by decide +kernel) rfl
theorem jw_max2 : Cond.code Lib.Math.max.name Lib.Math.max.code 2 (some .int) ∈ gw := gw_in (by decide +kernel) rfl
theorem jw_min1 : Cond.static Lib.Math.min.name ∈ gw := gw_in (by decide +kernel) rfl
theorem jw_min2 : Cond.code Lib.Math.min.name Lib.Math.min.code 2 (some .int) ∈ gw := gw_in (by decide +kernel) rfl
theorem jw_math : Cond.initialized "java/lang/Math" ∈ gw := gw_in (by decide +kernel) rfl
theorem jw_cp1 : Cond.native arraycopyName ∈ gw := gw_in (by decide +kernel) rfl
theorem jw_cp2 : Cond.static arraycopyName ∈ gw := gw_in (by decide +kernel) rfl
theorem jw_cp3 : Cond.initialized "java/lang/System" ∈ gw := gw_in (by decide +kernel) rfl
section JDK
variable {p : Program} {l : Launch} {e : Env} {s : State} {m : MethodId} {args : Array Value} {below : List Frame} {meth : Method} {c : Code} {H : Heap} {locs : List Loc} {cells slots : Nat} {Q : State → Prop}
variable {G : GG} {cc : ByteArray} {pc : Nat} {ls : Array Slot} {o nL : Nat} {h : AH} {d idx : Nat} {r : AL} {R : Room}
theorem obj_ok {a : Nat} (C : CX G p s m args c cc o) (hml : c.maxLocals = nL) (hsz : ls.size = nL) (hlk : Cond.methodLink (cn o) idx objectInit ∈ gw) (hrest : r.length ≤ 4) (hR : R.frames = d + 1 ∧ R.locals = 64 * (d + 1)) (hd : decode cc pc = .ok (.invokespecial idx, 3))
    (kk : W p l e R s m args below meth c H locs cells slots Q (F0 m (pc + 3) ls (r.map (tv G)))) : W p l e R s m args below meth c H locs cells slots Q (F0 m pc ls ((Value.ref a :: r).map (tv G))) := by
  obtain ⟨hx, hb, hown, hts, hB, hG⟩ := C
  have h9 := cat_sum (G := G) hrest
  refine W.objInit hx hb hown (hts _ hlk) (hts _ jw_obj1) (hts _ jw_obj2) rfl (by rw [hml]; exact hsz) (a := gr G a) (rest := r.map (tv G)) rfl hd (by rw [hR.1]; omega) ?_ ?_
  · rw [hR.2]; show 2 * 0 + _ + 12 ≤ _; omega
  · exact W.eq (g2 := F0 m (pc + 3) ls (r.map (tv G))) rfl kk
theorem max_ok {x y : Int32} (C : CX G p s m args c cc o) (hml : c.maxLocals = nL) (hsz : ls.size = nL) (hlk : Cond.methodLink (cn o) idx Lib.Math.max.name ∈ gw) (hrest : r.length ≤ 4) (hR : R.frames = d + 1 ∧ R.locals = 64 * (d + 1)) (hc : cells ≤ R.cells) (hs : slots ≤ R.slots) (hd : decode cc pc = .ok (.invokestatic idx, 3))
    (kk : W p l e R s m args below meth c H locs cells slots Q (F0 m (pc + 3) ls ((Value.int (if x < y then y else x) :: r).map (tv G)))) : W p l e R s m args below meth c H locs cells slots Q (F0 m pc ls ((Value.int y :: Value.int x :: r).map (tv G))) := by
  obtain ⟨hx, hb, hown, hts, hB, hG⟩ := C
  have h9 := cat_sum (G := G) hrest
  exact va_mmax hx hb (by rw [hml, hsz]) hown (hts _ hlk) (hts _ jw_max1) (hts _ jw_math) (hts _ jw_max2) (by rw [hR.1]; omega) (by rw [hR.2]; omega) hc hs hd kk
theorem min_ok {x y : Int32} (C : CX G p s m args c cc o) (hml : c.maxLocals = nL) (hsz : ls.size = nL) (hlk : Cond.methodLink (cn o) idx Lib.Math.min.name ∈ gw) (hrest : r.length ≤ 4) (hR : R.frames = d + 1 ∧ R.locals = 64 * (d + 1)) (hc : cells ≤ R.cells) (hs : slots ≤ R.slots) (hd : decode cc pc = .ok (.invokestatic idx, 3))
    (kk : W p l e R s m args below meth c H locs cells slots Q (F0 m (pc + 3) ls ((Value.int (if y < x then y else x) :: r).map (tv G)))) : W p l e R s m args below meth c H locs cells slots Q (F0 m pc ls ((Value.int y :: Value.int x :: r).map (tv G))) := by
  obtain ⟨hx, hb, hown, hts, hB, hG⟩ := C
  have h9 := cat_sum (G := G) hrest
  exact va_mmin hx hb (by rw [hml, hsz]) hown (hts _ hlk) (hts _ jw_min1) (hts _ jw_math) (hts _ jw_min2) (by rw [hR.1]; omega) (by rw [hR.2]; omega) hc hs hd kk
theorem nnI (z : Int32) (hz : ¬ z < 0) : z.toInt = (z.toNatClampNeg : Int) := by
  have hz0 : (0 : Int) ≤ z.toInt := by
    have := Int32.not_lt.mp hz
    simpa using Int32.le_iff_toInt_le.mp this
  show z.toInt = ((z.toInt.toNat : Nat) : Int)
  omega
set_option maxHeartbeats 4000000 in
theorem cpy_ok {a b n0 n1 : Nat} {f g : Nat → Int32} {sp dp n : Int32} (C : CX G p s m args c cc o) (hml : c.maxLocals = nL) (hsz : ls.size = nL) (hr : HR G h H) (hl : ∀ z ∈ locs, gb G ≤ z.base) (hlk : Cond.methodLink (cn o) idx arraycopyName ∈ gw) (hrest : r.length ≤ 4) (hR : R.frames = d + 1 ∧ R.locals = 64 * (d + 1)) (hd : decode cc pc = .ok (.invokestatic idx, 3))
    (ha : a < h.2.1) (he : h.1 a = .inl (0, n0, .inl f)) (hb9 : b < h.2.1) (hbe : h.1 b = .inl (0, n1, .inl g)) (h1 : ¬ sp < 0) (h2 : ¬ dp < 0) (h3 : ¬ n < 0) (h4 : sp.toNatClampNeg + n.toNatClampNeg ≤ n0) (h5 : dp.toNatClampNeg + n.toNatClampNeg ≤ n1)
    (kk : ∀ (H' : Heap) (locs' : List Loc), HR G (hput h b (.inl (0, n1, .inl (va_cpy f g sp.toNatClampNeg dp.toNatClampNeg n.toNatClampNeg)))) H' → (∀ z ∈ locs', gb G ≤ z.base) → W p l e R s m args below meth c H' locs' cells slots Q (F0 m (pc + 3) ls (r.map (tv G)))) : W p l e R s m args below meth c H locs cells slots Q (F0 m pc ls ((Value.int n :: Value.int dp :: Value.ref b :: Value.int sp :: Value.ref a :: r).map (tv G))) := by
  obtain ⟨hx, hb, hown, hts, hB, hG⟩ := C
  have h9 := cat_sum (G := G) hrest
  have hnf : nativeFrameWords "java/lang/System" "arraycopy" 5 ≤ 40 := by decide +kernel
  have hrb : gr G b = gb G + b := hG.1 b (by have := hr.2.1; omega)
  have hc0 : H[gr G a]? = some (vp_cell (gA G 0) (n0, .inl f)) := hr.get hG ha he rfl
  have hc1 : H[gr G b]? = some (vp_cell (gA G 0) (n1, .inl g)) := hr.get hG hb9 hbe rfl
  intro T hT X
  obtain ⟨-, k0, hk0, cm0, hkk0⟩ := (hB.1.2 0 _ rfl).1 n0 (fun j => .int (f j))
  obtain ⟨vm', X', step⟩ := X.arraycopy hx hown (hts _ hlk) (hts _ jw_cp1) (hts _ jw_cp2) (hts _ jw_cp3) (src := gr G a) (dst := gr G b) (cs := vp_cell (gA G 0) (n0, .inl f)) (cd := vp_cell (gA G 0) (n1, .inl g)) (srcPos := sp) (destPos := dp) (n := n) (by rw [hT]; exact hc0) (by rw [hT]; exact hc1)
    (fun _ h => by cases h) (fun _ h => by cases h) (fun h => by cases h) (fun h => by cases h) hk0 hk0 hkk0 hkk0 (by rfl) h1 h2 h3
    (by rw [nnI sp h1, nnI n h3]; show ¬ _ > ((arrV (gA G 0) n0 (fun j => .int (f j))).slots.size : Int); rw [arrV_size]; omega)
    (by rw [nnI dp h2, nnI n h3]; show ¬ _ > ((arrV (gA G 0) n1 (fun j => .int (g j))).slots.size : Int); rw [arrV_size]; omega)
    (fun vm₁ _ i hi => by
      have e : (vp_cell (gA G 0) (n0, .inl f)).slots.getD (sp.toNatClampNeg + i) .null = .int (f (sp.toNatClampNeg + i)) := by
        show (arrV (gA G 0) n0 (fun j => .int (f j))).slots.getD _ _ = _
        rw [Array.getD_eq_getD_getElem?, arrV_read _ _ (by omega)]
        rfl
      refine ⟨?_, ?_⟩
      · rw [e]; rfl
      · rw [e]; exact trivial)
    (g := F0 m pc ls (.int n :: .int dp :: .ref (gr G b) :: .int sp :: .ref (gr G a) :: r.map (tv G))) rfl (by rw [hml]; exact hsz) (rest := r.map (tv G)) rfl (by rw [hb]; exact hd) (by rw [hR.1]; omega) (by rw [hR.2]; show 2 * 0 + _ + _ ≤ _; omega)
  have e1 : copied (vp_cell (gA G 0) (n0, .inl f)) (vp_cell (gA G 0) (n1, .inl g)) sp dp n = vp_cell (gA G 0) (n1, .inl (va_cpy f g sp.toNatClampNeg dp.toNatClampNeg n.toNatClampNeg)) := va_copied (fun z => .int z) (gA G 0) (gA G 0) f g h4
  rw [e1] at X' step
  have hlt : gr G b < H.size := (Array.getElem?_eq_some_iff.mp hc1).1
  have hheap : ((T.setVm vm').setCell (gr G b) (vp_cell (gA G 0) (n1, .inl (va_cpy f g sp.toNatClampNeg dp.toNatClampNeg n.toNatClampNeg)))).heap = H.setIfInBounds (gr G b) (vp_cell (gA G 0) (n1, .inl (va_cpy f g sp.toNatClampNeg dp.toNatClampNeg n.toNatClampNeg))) := by rw [← hT]; rfl
  obtain ⟨t, a1, b1⟩ := kk _ _ (hr.put hb9 (by simp) (fun q hq => by rw [← hrb] at hq; simp [Array.getElem?_setIfInBounds, Ne.symm hq]) (show (H.setIfInBounds (gr G b) (vp_cell (gA G 0) (n1, .inl (va_cpy f g sp.toNatClampNeg dp.toNatClampNeg n.toNatClampNeg))))[gb G + b]? = some _ by rw [← hrb]; simp [Array.getElem?_setIfInBounds, hlt])) (fun q hq => by
      rcases List.mem_append.mp hq with h | h
      · exact hl q h
      · obtain ⟨z, -, hz⟩ := List.mem_map.mp h
        rw [← hz]
        show gb G ≤ gr G b
        rw [hrb]; omega) _ hheap X'
  exact ⟨t, step t a1, b1⟩
end JDK
