/-! ===== cells ===== -/
def tE (G : GG) (e : va_E) : va_E := match e with
  | .inl (t, n, .inl f) => .inl (gA G t, n, .inl f)
  | .inl (t, n, .inr (.inl f)) => .inl (gA G t, n, .inr (.inl f))
  | .inl (t, n, .inr (.inr (.inl f))) => .inl (gA G t, n, .inr (.inr (.inl f)))
  | .inl (t, n, .inr (.inr (.inr (.inl f)))) => .inl (gA G t, n, .inr (.inr (.inr (.inl f))))
  | .inl (t, n, .inr (.inr (.inr (.inr f)))) => .inl (gA G t, n, .inr (.inr (.inr (.inr (fun i => (f i).map (gr G))))))
  | .inr (c, fs) => .inr (c, fs.map (tv G))
def isOpq (e : va_E) : Bool := match e with
  | .inr (99, _) => true
  | _ => false
def hput (h : AH) (k : Nat) (e : va_E) : AH := (va_up h.1 k e, h.2)
def hnew (h : AH) (e : va_E) (n : Nat) : AH := (va_up h.1 h.2.1 e, h.2.1 + 1, h.2.2 + n)
def HR (G : GG) (h : AH) (H : Heap) : Prop :=
  H.size = gb G + h.2.1 ∧ h.2.1 ≤ 1000000 ∧ (∀ q : Nat, q < gb G → H[q]? = (gH G)[q]?) ∧ h.1 2000000 = .inl (77, gL G, .inl (gX G)) ∧
  ∀ k : Nat, k < h.2.1 → isOpq (h.1 k) = true ∨ va_at (gD G) vwCl (gb G + k, tE G (h.1 k)) H
def GOK (G : GG) : Prop := (∀ k : Nat, k ≤ 1000000 → gr G k = gb G + k) ∧ gb G = (gH G).size
theorem P1 {D : va_G} {cl : List vw_C} {a : Nat} {e : va_E} {H : Heap} (h : va_at D cl (a, e) H) : va_P D cl [(a, e)] H := by
  intro k q hq
  have hz : k < 1 := (List.getElem?_eq_some_iff.mp hq).1
  rw [show k = 0 by omega] at hq
  cases hq
  exact h
theorem HR.get {G : GG} {h : AH} {H : Heap} (hG : GOK G) (hr : HR G h H) {a : Nat} {e : va_E} (ha : a < h.2.1) (he : h.1 a = e) (ho : isOpq e = false) : va_at (gD G) vwCl (gr G a, tE G e) H := by
  subst he
  rw [hG.1 a (by have := hr.2.1; omega)]
  rcases hr.2.2.2.2 a ha with h1 | h1
  · rw [ho] at h1; cases h1
  · exact h1
theorem HR.put {G : GG} {h : AH} {H H1 : Heap} (hr : HR G h H) {k : Nat} {e : va_E} (hk : k < h.2.1) (z : H1.size = H.size) (oq : ∀ q : Nat, q ≠ gb G + k → H1[q]? = H[q]?) (he : va_at (gD G) vwCl (gb G + k, tE G e) H1) : HR G (hput h k e) H1 := by
  obtain ⟨h1, h2, h3, h4, h5⟩ := hr
  refine ⟨z.trans h1, h2, fun q hq => (oq q (by omega)).trans (h3 q hq), ?_, fun j hj => ?_⟩
  · show va_up h.1 k e 2000000 = _
    unfold va_up
    rw [if_neg (by omega)]
    exact h4
  · show isOpq (va_up h.1 k e j) = true ∨ va_at _ _ (gb G + j, tE G (va_up h.1 k e j)) H1
    unfold va_up
    by_cases e1 : j = k
    · subst e1
      rw [if_pos rfl]
      exact Or.inr he
    · rw [if_neg e1]
      exact (h5 j hj).imp id (fun q => q.kept (oq _ (fun z => e1 (by have z : gb G + j = gb G + k := z; omega))))
theorem HR.push {G : GG} {h : AH} {H H1 : Heap} (hr : HR G h H) {e : va_E} {n : Nat} (hl : h.2.1 < 1000000) (z : H1.size = H.size + 1) (oq : ∀ q : Nat, q < H.size → H1[q]? = H[q]?) (he : isOpq e = true ∨ va_at (gD G) vwCl (gb G + h.2.1, tE G e) H1) : HR G (hnew h e n) H1 := by
  obtain ⟨h1, h2, h3, h4, h5⟩ := hr
  refine ⟨by rw [z, h1]; show gb G + h.2.1 + 1 = gb G + (h.2.1 + 1); omega, hl, fun q hq => (oq q (by omega)).trans (h3 q hq), ?_, fun j hj => ?_⟩
  · show va_up h.1 h.2.1 e 2000000 = _
    unfold va_up
    rw [if_neg (by omega)]
    exact h4
  · show isOpq (va_up h.1 h.2.1 e j) = true ∨ va_at _ _ (gb G + j, tE G (va_up h.1 h.2.1 e j)) H1
    have hj : j < h.2.1 + 1 := hj
    unfold va_up
    by_cases e1 : j = h.2.1
    · subst e1
      rw [if_pos rfl]
      exact he
    · rw [if_neg e1]
      exact (h5 j (by omega)).imp id (fun q => q.kept (oq _ (by show gb G + j < H.size; omega)))
theorem HR.S {G : GG} {h0 h : AH} {H0 H : Heap} {locs : List Loc} (h1 : HR G h0 H0) (h2 : HR G h H) (hle : h0.2.1 ≤ h.2.1) (hl : ∀ z ∈ locs, gb G ≤ z.base) : va_S (fun q : Nat => gb G ≤ q) H0 H locs :=
  ⟨by rw [h1.1, h2.1]; omega, fun q _ hq => (h2.2.2.1 q (Nat.not_le.mp hq)).trans (h1.2.2.1 q (Nat.not_le.mp hq)).symm, hl⟩
theorem locs_app {locs : List Loc} {b a k : Nat} (hl : ∀ z ∈ locs, b ≤ z.base) (ha : b ≤ a) : ∀ z ∈ locs ++ [⟨a, k⟩], b ≤ z.base := by
  intro z hz
  rcases List.mem_append.mp hz with h | h
  · exact hl z h
  · rw [List.mem_singleton.mp h]; exact ha
/-! the tables of the classes -/
def clTy (ci : Nat) : Nat → FieldType := match ci with
  | 0 => tyX0
  | 1 => tyX1
  | 2 => tyX2
  | 3 => tyX3
  | 4 => tyX4
  | 5 => tyX6
  | 6 => tyX7
  | 7 => tyX8
  | 8 => tyX9
  | _ => tyX10
/-- the words that stay true while the tables grow -/
def gw : List Cond := lw_tbl.filter goodWord
theorem gw_at (i : Nat) {w : Cond} (h : lw_tbl[i]? = some w) (hg : goodWord w = true) : w ∈ gw := List.mem_filter.mpr ⟨List.mem_of_getElem? h, hg⟩
theorem gw_in {w : Cond} (h : w ∈ lw_tbl) (hg : goodWord w = true) : w ∈ gw := List.mem_filter.mpr ⟨h, hg⟩
theorem gw_good {w : Cond} (h : w ∈ gw) : w ∈ gw ∧ ((w.onTables && w.keeps) = true ∨ ∃ ty, w = .arrayClass ty) := ⟨h, good_of_word (List.mem_filter.mp h).2⟩
theorem gw_all {ws : List Cond} (h : ∀ w ∈ ws, w ∈ lw_tbl) (hg : ws.all goodWord = true) : ∀ w ∈ ws, w ∈ gw := fun w hw => gw_in (h w hw) (List.all_eq_true.mp hg w hw)
def clOK (C : String) (T : u_T) (N : Nat) (ty : Nat → FieldType) : Prop := (∀ w ∈ u_ws C T N, w ∈ gw) ∧ (∀ k, k < N → parseFieldDescriptor (T k).2.2.1 = some (ty k)) ∧ (∀ a, a < N → ∀ b, b < N → a ≠ b → (T a).2.1 ≠ (T b).2.1) ∧ Cond.instantiable C N ∈ gw ∧ Cond.initialized C ∈ gw
theorem clOK0 : clOK RX0 TX0 11 tyX0 := ⟨gw_all (by decide +kernel) (by decide +kernel), tyX0_ok, nmX0, gw_in (by decide +kernel) rfl, gw_in (by decide +kernel) rfl⟩
theorem clOK1 : clOK RX1 TX1 5 tyX1 := ⟨gw_all (by decide +kernel) (by decide +kernel), tyX1_ok, nmX1, gw_in (by decide +kernel) rfl, gw_in (by decide +kernel) rfl⟩
theorem clOK2 : clOK RX2 TX2 3 tyX2 := ⟨gw_all (by decide +kernel) (by decide +kernel), tyX2_ok, nmX2, gw_in (by decide +kernel) rfl, gw_in (by decide +kernel) rfl⟩
theorem clOK3 : clOK RX3 TX3 12 tyX3 := ⟨gw_all (by decide +kernel) (by decide +kernel), tyX3_ok, nmX3, gw_in (by decide +kernel) rfl, gw_in (by decide +kernel) rfl⟩
theorem clOK4 : clOK RX4 TX4 4 tyX4 := ⟨gw_all (by decide +kernel) (by decide +kernel), tyX4_ok, nmX4, gw_in (by decide +kernel) rfl, gw_in (by decide +kernel) rfl⟩
theorem clOK5 : clOK RX6 TX6 7 tyX6 := ⟨gw_all (by decide +kernel) (by decide +kernel), tyX6_ok, nmX6, gw_in (by decide +kernel) rfl, gw_in (by decide +kernel) rfl⟩
theorem clOK6 : clOK RX7 TX7 4 tyX7 := ⟨gw_all (by decide +kernel) (by decide +kernel), tyX7_ok, nmX7, gw_in (by decide +kernel) rfl, gw_in (by decide +kernel) rfl⟩
theorem clOK7 : clOK RX8 TX8 7 tyX8 := ⟨gw_all (by decide +kernel) (by decide +kernel), tyX8_ok, nmX8, gw_in (by decide +kernel) rfl, gw_in (by decide +kernel) rfl⟩
theorem clOK8 : clOK RX9 TX9 17 tyX9 := ⟨gw_all (by decide +kernel) (by decide +kernel), tyX9_ok, nmX9, gw_in (by decide +kernel) rfl, gw_in (by decide +kernel) rfl⟩
theorem clOK9 : clOK RX10 TX10 47 tyX10 := ⟨gw_all (by decide +kernel) (by decide +kernel), tyX10_ok, nmX10, gw_in (by decide +kernel) rfl, gw_in (by decide +kernel) rfl⟩
theorem clOK_all {ci : Nat} {C : String} {T : u_T} {N : Nat} (h : vwCl[ci]? = some (C, T, N)) : clOK C T N (clTy ci) := by
  match ci, h with
  | 0, h => cases h; exact clOK0
  | 1, h => cases h; exact clOK1
  | 2, h => cases h; exact clOK2
  | 3, h => cases h; exact clOK3
  | 4, h => cases h; exact clOK4
  | 5, h => cases h; exact clOK5
  | 6, h => cases h; exact clOK6
  | 7, h => cases h; exact clOK7
  | 8, h => cases h; exact clOK8
  | 9, h => cases h; exact clOK9
  | n + 10, h => cases h
