/-! ===== the heap's instructions: what the small machine does, the real one does ===== -/
theorem gfO_inv {ds : List Nat} {stk : AL} {h : AH} {q : AL × AH} (e : gfO ds stk h = some q) : ∃ ci k a r fs v, ds = [ci, k] ∧ stk = .ref a :: r ∧ a < h.2.1 ∧ h.1 a = .inr (ci, fs) ∧ fs[k]? = some v ∧ q = (v :: r, h) := by
  unfold gfO at e
  split at e
  · rename_i ci k a r
    split at e
    · rename_i c fs eo
      split at e
      · rename_i ec
        split at e
        · rename_i v ev
          cases e
          subst ec
          exact ⟨_, _, _, _, _, _, rfl, rfl, (oAt_inv eo).1, (oAt_inv eo).2, ev, rfl⟩
        · cases e
      · cases e
    · cases e
  · cases e
theorem pfO_inv {ds : List Nat} {stk : AL} {h : AH} {q : AL × AH} (e : pfO ds stk h = some q) : ∃ ci k v a r fs, ds = [ci, k] ∧ stk = v :: .ref a :: r ∧ a < h.2.1 ∧ h.1 a = .inr (ci, fs) ∧ k < fs.length ∧ okF (clTy ci k) v = true ∧ q = (r, hput h a (.inr (ci, fs.set k v))) := by
  unfold pfO at e
  split at e
  · rename_i ci k v a r
    split at e
    · rename_i c fs eo
      split at e
      · rename_i ec
        cases e
        obtain ⟨e1, e2, e3⟩ := ec
        subst e1
        exact ⟨_, _, _, _, _, _, rfl, rfl, (oAt_inv eo).1, (oAt_inv eo).2, e2, e3, rfl⟩
      · cases e
    · cases e
  · cases e
def FLk (s : State) (args : Array Value) (o idx ci k : Nat) : Prop := ∃ C T N, vwCl[ci]? = some (C, T, N) ∧ k < N ∧
  ((Cond.fieldLink (cn o) idx (T k).1 (T k).2.1 (T k).2.2.1).before args s = true ∨ ∃ host, (Cond.fieldLinkNest (cn o) idx (T k).1 (T k).2.1 (T k).2.2.1 host).before args s = true)
section HOP
variable {p : Program} {l : Launch} {e : Env} {R : Room} {s : State} {m : MethodId} {args : Array Value} {below : List Frame} {meth : Method} {c : Code} {H : Heap} {locs : List Loc} {cells slots : Nat} {Q : State → Prop}
variable {G : GG} {cc : ByteArray} {pc : Nat} {ls : Array Slot} {o : Nat} {h : AH}
theorem gf_ok {idx ci k a : Nat} {r : AL} {fs : List Value} {v : Value} (C : CX G p s m args c cc o) (hr : HR G h H) (hF : FLk s args o idx ci k) (ha : a < h.2.1) (he : h.1 a = .inr (ci, fs)) (hv : fs[k]? = some v) (hd : decode cc pc = .ok (.getfield idx, 3))
    (kk : W p l e R s m args below meth c H locs cells slots Q (F0 m (pc + 3) ls ((v :: r).map (tv G)))) : W p l e R s m args below meth c H locs cells slots Q (F0 m pc ls ((Value.ref a :: r).map (tv G))) := by
  obtain ⟨hx, hb, hown, hts, hB, hG⟩ := C
  obtain ⟨Cn, T, N, hc, hk, hlk⟩ := hF
  have hci : ci < 10 := (List.getElem?_eq_some_iff.mp hc).1
  have hP := P1 (hr.get hG ha he (isOpq_obj (by omega)))
  obtain ⟨hin, -⟩ := clOK_all hc
  have hv' : (fs.map (tv G))[k]? = some (tv G v) := by rw [List.getElem?_map, hv]; rfl
  rcases hlk with hlk | ⟨host, hlk⟩
  · exact va_get hx hb hts hin hown hB.1 hP 0 rfl hc k hk hlk (fun _ h9 => h9) hv' hd kk
  · exact va_getN hx hb hts hin hown hB.1 hP 0 rfl hc k hk hlk (fun _ h9 => h9) hv' hd kk
theorem pf_at {ci k a : Nat} {fs : List Value} {v : Value} {Cn : String} {T : u_T} {N : Nat} {H' : Heap} {cell : Cell} {j : Nat} (hc : vwCl[ci]? = some (Cn, T, N)) (hap : ∀ x y, x < N → y < N → x ≠ y → ((gD G).2 ci) x ≠ ((gD G).2 ci) y) (hk : k < N) (hl : k < fs.length)
    (q2 : cell.cls = (gD G).1 ci) (q3 : cell.vm = .none) (q4 : ∀ k, k < N → cell.slots[((gD G).2 ci) k]? = some (vp_V (fs.map (tv G)) k)) (hj : j = ((gD G).2 ci) k) (e1 : H'[a]? = some (cell.setSlot j (tv G v))) : va_at (gD G) vwCl (a, tE G (.inr (ci, fs.set k v))) H' := by
  subst hj
  refine ⟨_, hc, ?_⟩
  show t_OB a _ _ _ H' (vp_V ((fs.set k v).map (tv G)))
  rw [List.map_set]
  exact t_OB.to (V := updV (vp_V (fs.map (tv G))) k (tv G v)) ⟨_, e1, q2, q3, t_set q4 hap hk _⟩ (fun j _ => vp_updV_set (by rw [List.length_map]; exact hl) _ j)
theorem pf_ok {idx ci k a : Nat} {r : AL} {fs : List Value} {v : Value} (C : CX G p s m args c cc o) (hr : HR G h H) (hl : ∀ z ∈ locs, gb G ≤ z.base) (hF : FLk s args o idx ci k) (hfin : ∀ Cn T N, vwCl[ci]? = some (Cn, T, N) → (T k).2.2.2 = false ∨ (meth.name = "<init>" ∧ (T k).1 = cn o ∧ (Cond.fieldLink (cn o) idx (T k).1 (T k).2.1 (T k).2.2.1).before args s = true)) (ha : a < h.2.1) (he : h.1 a = .inr (ci, fs)) (hkl : k < fs.length) (hok : okF (clTy ci k) v = true) (hd : decode cc pc = .ok (.putfield idx, 3))
    (kk : ∀ (H' : Heap) (locs' : List Loc), HR G (hput h a (.inr (ci, fs.set k v))) H' → (∀ z ∈ locs', gb G ≤ z.base) → W p l e R s m args below meth c H' locs' cells slots Q (F0 m (pc + 3) ls (r.map (tv G)))) : W p l e R s m args below meth c H locs cells slots Q (F0 m pc ls ((v :: Value.ref a :: r).map (tv G))) := by
  obtain ⟨hx, hb, hown, hts, hB, hG⟩ := C
  obtain ⟨Cn, T, N, hc, hk, hlk⟩ := hF
  have hf := hfin Cn T N hc
  have hci : ci < 10 := (List.getElem?_eq_some_iff.mp hc).1
  have hra : gr G a = gb G + a := hG.1 a (by have := hr.2.1; omega)
  obtain ⟨r9, h1, cell, q1, q2, q3, q4⟩ := hr.get hG ha he (isOpq_obj (by omega))
  have hr9 : r9 = (Cn, T, N) := Option.some.inj (h1.symm.trans hc)
  subst hr9
  obtain ⟨hin, hty, hnm, -, -⟩ := clOK_all hc
  have hap := va_apart (own := cn o) hts hin (clTy ci) hty hnm hB.1 hc
  obtain ⟨hS, hfc, kC, hkC, hkind⟩ := hB.1.1 ci _ hc
  obtain ⟨cf, kf, fi, f, hi, hsl⟩ := hS k hk
  have hst := (u_facts hfc hkC (u_lays hts hin hk) hi).1
  obtain ⟨hft, hnr⟩ := okF_fits (G := G) hok
  have hlay := hts _ (hin _ (u_in_lay hk))
  unfold u_lay at hlay
  have fin : ∀ (H' : Heap), H'[gr G a]? = some (cell.setSlot f.slot (tv G v)) → H'.size = H.size → (∀ q, q ≠ gr G a → H'[q]? = H[q]?) → HR G (hput h a (.inr (ci, fs.set k v))) H' := fun H' e1 e2 e3 => by
    rw [hra] at e1 e3
    exact hr.put ha e2 e3 (pf_at hc hap hk hkl q2 q3 q4 hsl e1)
  by_cases hfn : (T k).2.2.2 = true
  · rcases hf with hf | ⟨hn, hdecl, hlk'⟩
    · rw [hf] at hfn; cases hfn
    · rw [if_pos hfn] at hlay
      have hcf : m.cls = cf := by
        obtain ⟨_, _, c', _, _, _, -, -, hf', -, -, -, hown2, -⟩ := Cond.laysFinal_spec hlay
        have e1 : c' = cf := by have := hi.symm.trans hf'; simp at this; exact this.1.symm
        rw [hdecl] at hown2
        rw [← e1]; exact Option.some.inj (hown.symm.trans hown2)
      have h6 := u_fits hfc hkC hkind (Or.inr hlay) hi (hty k hk) hnr hft
      exact W.putFinK hx hb hown hlk' hi hst hcf hn (by rw [q2]; exact h6) q1 q3 (by rw [hsl]; exact k2_hasslot (q4 k hk)) rfl rfl hd fun H' e1 e2 e3 => kk H' _ (fin H' e1 e2 e3) (locs_app hl (by rw [hra]; omega))
  · rw [if_neg hfn] at hlay
    have h6 := u_store hfc hkC hkind hlay hi (hty k hk) hnr hft
    rcases hlk with hlk | ⟨host, hlk⟩
    · exact W.putK hx hb (f := f) ⟨hown, hlk, ⟨_, _, _, hi⟩, hst⟩ (by rw [q2]; exact h6) q1 q3 (by rw [hsl]; exact k2_hasslot (q4 k hk)) rfl rfl hd fun H' e1 e2 e3 => kk H' _ (fin H' e1 e2 e3) (locs_app hl (by rw [hra]; omega))
    · exact va_WputK hx hb (f := f) hown hlk hi hst (by rw [q2]; exact h6) q1 q3 (by rw [hsl]; exact k2_hasslot (q4 k hk)) rfl rfl hd fun H' e1 e2 e3 => kk H' _ (fin H' e1 e2 e3) (locs_app hl (by rw [hra]; omega))
/-! arrays -/
theorem ial_ok {a n : Nat} {i : Int32} {r : AL} {f : Nat → Int32} (C : CX G p s m args c cc o) (hr : HR G h H) (ha : a < h.2.1) (he : h.1 a = .inl (0, n, .inl f)) (hin : ¬ (i < 0 ∨ n ≤ i.toNatClampNeg)) (hd : decode cc pc = .ok (.iaload, 1))
    (kk : W p l e R s m args below meth c H locs cells slots Q (F0 m (pc + 1) ls ((Value.int (f i.toNatClampNeg) :: r).map (tv G)))) : W p l e R s m args below meth c H locs cells slots Q (F0 m pc ls ((Value.int i :: Value.ref a :: r).map (tv G))) := by
  obtain ⟨hx, hb, hown, hts, hB, hG⟩ := C
  exact va_iald hx hb hB.1 (P1 (hr.get hG ha he rfl)) 0 0 rfl rfl hin hd kk
theorem bal_ok {a n : Nat} {i : Int32} {r : AL} {f : Nat → Int32} (C : CX G p s m args c cc o) (hr : HR G h H) (ha : a < h.2.1) (he : h.1 a = .inl (2, n, .inl f)) (hin : ¬ (i < 0 ∨ n ≤ i.toNatClampNeg)) (hd : decode cc pc = .ok (.baload, 1))
    (kk : W p l e R s m args below meth c H locs cells slots Q (F0 m (pc + 1) ls ((Value.int (f i.toNatClampNeg) :: r).map (tv G)))) : W p l e R s m args below meth c H locs cells slots Q (F0 m pc ls ((Value.int i :: Value.ref a :: r).map (tv G))) := by
  obtain ⟨hx, hb, hown, hts, hB, hG⟩ := C
  exact va_bald hx hb hB.1 (P1 (hr.get hG ha he rfl)) 0 2 rfl rfl hin hd kk
theorem lal_ok {a n : Nat} {i : Int32} {r : AL} {f : Nat → Int64} (C : CX G p s m args c cc o) (hr : HR G h H) (ha : a < h.2.1) (he : h.1 a = .inl (1, n, .inr (.inl f))) (hin : ¬ (i < 0 ∨ n ≤ i.toNatClampNeg)) (hd : decode cc pc = .ok (.laload, 1))
    (kk : W p l e R s m args below meth c H locs cells slots Q (F0 m (pc + 1) ls ((Value.long (f i.toNatClampNeg) :: r).map (tv G)))) : W p l e R s m args below meth c H locs cells slots Q (F0 m pc ls ((Value.int i :: Value.ref a :: r).map (tv G))) := by
  obtain ⟨hx, hb, hown, hts, hB, hG⟩ := C
  exact va_lald hx hb hB.1 (P1 (hr.get hG ha he rfl)) 0 1 rfl rfl hin hd kk
theorem rf_map (x : Option Nat) : va_rf (x.map (gr G)) = tv G (va_rf x) := by cases x <;> rfl
theorem aal_ok {a n t : Nat} {i : Int32} {r : AL} {f : Nat → Option Nat} (C : CX G p s m args c cc o) (hr : HR G h H) (ht : t = 3 ∨ t = 4) (ha : a < h.2.1) (he : h.1 a = .inl (t, n, .inr (.inr (.inr (.inr f))))) (hin : ¬ (i < 0 ∨ n ≤ i.toNatClampNeg)) (hd : decode cc pc = .ok (.aaload, 1))
    (kk : W p l e R s m args below meth c H locs cells slots Q (F0 m (pc + 1) ls ((va_rf (f i.toNatClampNeg) :: r).map (tv G)))) : W p l e R s m args below meth c H locs cells slots Q (F0 m pc ls ((Value.int i :: Value.ref a :: r).map (tv G))) := by
  obtain ⟨hx, hb, hown, hts, hB, hG⟩ := C
  have hP : H[gr G a]? = some (vp_cell (gA G t) (n, .inr (.inr (.inr (.inr (fun i => (f i).map (gr G))))))) := hr.get hG ha he rfl
  have hlt : i.toNatClampNeg < n := Nat.not_le.mp fun q => hin (Or.inr q)
  have kk' : W p l e R s m args below meth c H locs cells slots Q (F0 m (pc + 1) ls (va_rf ((f i.toNatClampNeg).map (gr G)) :: r.map (tv G))) := by rw [rf_map]; exact kk
  rcases ht with rfl | rfl
  · exact W.aald (v := va_rf ((f i.toNatClampNeg).map (gr G))) (ty := .array .int) hx hb hP ((hB.1.2 3 _ rfl).1 n (fun j => va_rf ((f j).map (gr G)))) rfl (fun q => by cases q) (by show ¬ (i < 0 ∨ (arrV _ _ _).slots.size ≤ _); rw [arrV_size]; exact hin) (by show (arrV _ _ _).slots[_]? = _; rw [arrV_read _ _ hlt]) rfl rfl hd kk'
  · exact W.aald (v := va_rf ((f i.toNatClampNeg).map (gr G))) (ty := .object RX3) hx hb hP ((hB.1.2 4 _ rfl).1 n (fun j => va_rf ((f j).map (gr G)))) rfl (fun q => by cases q) (by show ¬ (i < 0 ∨ (arrV _ _ _).slots.size ≤ _); rw [arrV_size]; exact hin) (by show (arrV _ _ _).slots[_]? = _; rw [arrV_read _ _ hlt]) rfl rfl hd kk'
theorem ias_ok {a n : Nat} {i x : Int32} {r : AL} {f : Nat → Int32} (C : CX G p s m args c cc o) (hr : HR G h H) (hl : ∀ z ∈ locs, gb G ≤ z.base) (ha : a < h.2.1) (he : h.1 a = .inl (0, n, .inl f)) (hin : ¬ (i < 0 ∨ n ≤ i.toNatClampNeg)) (hd : decode cc pc = .ok (.iastore, 1))
    (kk : ∀ (H' : Heap) (locs' : List Loc), HR G (hput h a (.inl (0, n, .inl (upd f i.toNatClampNeg x)))) H' → (∀ z ∈ locs', gb G ≤ z.base) → W p l e R s m args below meth c H' locs' cells slots Q (F0 m (pc + 1) ls (r.map (tv G)))) : W p l e R s m args below meth c H locs cells slots Q (F0 m pc ls ((Value.int x :: Value.int i :: Value.ref a :: r).map (tv G))) := by
  obtain ⟨hx, hb, hown, hts, hB, hG⟩ := C
  have hra : gr G a = gb G + a := hG.1 a (by have := hr.2.1; omega)
  have hP : H[gr G a]? = some (vp_cell (gA G 0) (n, .inl f)) := hr.get hG ha he rfl
  refine W.iast hx hb hP ((hB.1.2 0 _ rfl).1 n (fun j => .int (f j))) (fun q => by cases q) (by show ¬ (i < 0 ∨ (arrV _ _ _).slots.size ≤ _); rw [arrV_size]; exact hin) rfl rfl hd fun H1 e z oq => ?_
  rw [hra] at e oq ⊢
  refine kk H1 _ (hr.put ha z oq ?_) (locs_app hl (by omega))
  show H1[gb G + a]? = some (vp_cell _ _)
  rw [e, vp_cell_i, vp_cell_i, arrV_store]
  congr 2
  funext q
  by_cases hq : q = i.toNatClampNeg
  · subst hq; simp [updV, upd]
  · simp [updV, upd, hq]
theorem bas_ok {a n : Nat} {i x : Int32} {r : AL} {f : Nat → Int32} (C : CX G p s m args c cc o) (hr : HR G h H) (hl : ∀ z ∈ locs, gb G ≤ z.base) (ha : a < h.2.1) (he : h.1 a = .inl (2, n, .inl f)) (hin : ¬ (i < 0 ∨ n ≤ i.toNatClampNeg)) (hd : decode cc pc = .ok (.bastore, 1))
    (kk : ∀ (H' : Heap) (locs' : List Loc), HR G (hput h a (.inl (2, n, .inl (upd f i.toNatClampNeg x.toInt8.toInt32)))) H' → (∀ z ∈ locs', gb G ≤ z.base) → W p l e R s m args below meth c H' locs' cells slots Q (F0 m (pc + 1) ls (r.map (tv G)))) : W p l e R s m args below meth c H locs cells slots Q (F0 m pc ls ((Value.int x :: Value.int i :: Value.ref a :: r).map (tv G))) := by
  obtain ⟨hx, hb, hown, hts, hB, hG⟩ := C
  have hra : gr G a = gb G + a := hG.1 a (by have := hr.2.1; omega)
  have hP : H[gr G a]? = some (vp_cell (gA G 2) (n, .inl f)) := hr.get hG ha he rfl
  refine W.bast hx hb hP ((hB.1.2 2 _ rfl).1 n (fun j => .int (f j))) (fun q => by cases q) (by show ¬ (i < 0 ∨ (arrV _ _ _).slots.size ≤ _); rw [arrV_size]; exact hin) rfl rfl hd fun H1 e z oq => ?_
  rw [hra] at e oq ⊢
  refine kk H1 _ (hr.put ha z oq ?_) (locs_app hl (by omega))
  show H1[gb G + a]? = some (vp_cell _ _)
  rw [e, vp_cell_i, vp_cell_i, arrV_store, narrow_byte]
  congr 2
  funext q
  by_cases hq : q = i.toNatClampNeg
  · subst hq; simp [updV, upd]
  · simp [updV, upd, hq]
theorem las_ok {a n : Nat} {i : Int32} {x : Int64} {r : AL} {f : Nat → Int64} (C : CX G p s m args c cc o) (hr : HR G h H) (hl : ∀ z ∈ locs, gb G ≤ z.base) (ha : a < h.2.1) (he : h.1 a = .inl (1, n, .inr (.inl f))) (hin : ¬ (i < 0 ∨ n ≤ i.toNatClampNeg)) (hd : decode cc pc = .ok (.lastore, 1))
    (kk : ∀ (H' : Heap) (locs' : List Loc), HR G (hput h a (.inl (1, n, .inr (.inl (vp_updL f i.toNatClampNeg x))))) H' → (∀ z ∈ locs', gb G ≤ z.base) → W p l e R s m args below meth c H' locs' cells slots Q (F0 m (pc + 1) ls (r.map (tv G)))) : W p l e R s m args below meth c H locs cells slots Q (F0 m pc ls ((Value.long x :: Value.int i :: Value.ref a :: r).map (tv G))) := by
  obtain ⟨hx, hb, hown, hts, hB, hG⟩ := C
  have hra : gr G a = gb G + a := hG.1 a (by have := hr.2.1; omega)
  have hP : H[gr G a]? = some (vp_cell (gA G 1) (n, .inr (.inl f))) := hr.get hG ha he rfl
  refine W.last hx hb hP ((hB.1.2 1 _ rfl).1 n (fun j => .long (f j))) (fun q => by cases q) (by show ¬ (i < 0 ∨ (arrV _ _ _).slots.size ≤ _); rw [arrV_size]; exact hin) rfl rfl hd fun H1 e z oq => ?_
  rw [hra] at e oq ⊢
  refine kk H1 _ (hr.put ha z oq ?_) (locs_app hl (by omega))
  show H1[gb G + a]? = some (vp_cell _ _)
  rw [e, vp_cell_l, vp_cell_l, arrV_store]
  congr 2
  funext q
  by_cases hq : q = i.toNatClampNeg
  · subst hq; simp [updV, vp_updL]
  · simp [updV, vp_updL, hq]
theorem aasN_ok {a n : Nat} {i : Int32} {r : AL} {f : Nat → Option Nat} (C : CX G p s m args c cc o) (hr : HR G h H) (hl : ∀ z ∈ locs, gb G ≤ z.base) (ha : a < h.2.1) (he : h.1 a = .inl (4, n, .inr (.inr (.inr (.inr f))))) (hin : ¬ (i < 0 ∨ n ≤ i.toNatClampNeg)) (hd : decode cc pc = .ok (.aastore, 1))
    (kk : ∀ (H' : Heap) (locs' : List Loc), HR G (hput h a (.inl (4, n, .inr (.inr (.inr (.inr (va_up f i.toNatClampNeg none))))))) H' → (∀ z ∈ locs', gb G ≤ z.base) → W p l e R s m args below meth c H' locs' cells slots Q (F0 m (pc + 1) ls (r.map (tv G)))) : W p l e R s m args below meth c H locs cells slots Q (F0 m pc ls ((Value.null :: Value.int i :: Value.ref a :: r).map (tv G))) := by
  obtain ⟨hx, hb, hown, hts, hB, hG⟩ := C
  have hra : gr G a = gb G + a := hG.1 a (by have := hr.2.1; omega)
  have hP : H[gr G a]? = some (vp_cell (gA G 4) (n, .inr (.inr (.inr (.inr (fun i => (f i).map (gr G))))))) := hr.get hG ha he rfl
  refine va_WaastN (C := RX3) hx hb hP ((hB.1.2 4 _ rfl).1 n (fun j => va_rf ((f j).map (gr G)))) (fun h => by cases h) (by show ¬ (i < 0 ∨ (arrV _ _ _).slots.size ≤ _); rw [arrV_size]; exact hin) rfl rfl hd fun H1 e z oq => ?_
  rw [hra] at e oq ⊢
  refine kk H1 _ (hr.put ha z oq ?_) (locs_app hl (by omega))
  show H1[gb G + a]? = some (vp_cell _ _)
  rw [e, vp_cell_q, vp_cell_q, arrV_store]
  congr 2
  funext q
  by_cases hq : q = i.toNatClampNeg
  · subst hq; simp [updV, va_up, va_rf]
  · simp [updV, va_up, hq]
theorem aas_ok {a n v : Nat} {i : Int32} {r : AL} {f : Nat → Option Nat} {vs : List Value} (C : CX G p s m args c cc o) (hr : HR G h H) (hl : ∀ z ∈ locs, gb G ≤ z.base) (ha : a < h.2.1) (he : h.1 a = .inl (4, n, .inr (.inr (.inr (.inr f))))) (hva : v < h.2.1) (hve : h.1 v = .inr (3, vs)) (hin : ¬ (i < 0 ∨ n ≤ i.toNatClampNeg)) (hd : decode cc pc = .ok (.aastore, 1))
    (kk : ∀ (H' : Heap) (locs' : List Loc), HR G (hput h a (.inl (4, n, .inr (.inr (.inr (.inr (va_up f i.toNatClampNeg (some v)))))))) H' → (∀ z ∈ locs', gb G ≤ z.base) → W p l e R s m args below meth c H' locs' cells slots Q (F0 m (pc + 1) ls (r.map (tv G)))) : W p l e R s m args below meth c H locs cells slots Q (F0 m pc ls ((Value.ref v :: Value.int i :: Value.ref a :: r).map (tv G))) := by
  obtain ⟨hx, hb, hown, hts, hB, hG⟩ := C
  have hra : gr G a = gb G + a := hG.1 a (by have := hr.2.1; omega)
  have hP : H[gr G a]? = some (vp_cell (gA G 4) (n, .inr (.inr (.inr (.inr (fun i => (f i).map (gr G))))))) := hr.get hG ha he rfl
  have hlt : i.toNatClampNeg < n := Nat.not_le.mp fun q => hin (Or.inr q)
  have h0 : ¬ i < 0 := fun q => hin (Or.inl q)
  obtain ⟨r', hr', cellV, g1, g2, g3, -⟩ := hr.get hG hva hve rfl
  have hcls := (hB.1.1 3 _ rfl).2
  obtain ⟨kA, comp, k1, k2, k3, -⟩ := (hB.1.2 4 _ rfl).2
  have hcomp : comp = (gD G).1 3 := Option.some.inj (k3.symm.trans hcls.1)
  subst hcomp
  obtain ⟨kC, hkC, -⟩ := hcls.2
  refine W.aast hx hb hP (fun q h => by cases h) (fun h => by cases h) k1 k2 rfl hkC ⟨h0, by show _ < (arrV _ _ _).slots.size; rw [arrV_size]; exact hlt⟩ g1 (fun q h => by rw [g3] at h; cases h) (by rw [g2]; exact hkC) (by rw [g2]; exact va_assign hcls) rfl rfl hd fun H1 e z oq => ?_
  rw [hra] at e oq ⊢
  refine kk H1 _ (hr.put ha z oq ?_) (locs_app hl (by omega))
  show H1[gb G + a]? = some (vp_cell _ _)
  rw [e, vp_cell_q, vp_cell_q, arrV_store]
  congr 2
  funext q
  by_cases hq : q = i.toNatClampNeg
  · subst hq; simp [updV, va_up, va_rf]
  · simp [updV, va_up, hq]
end HOP
