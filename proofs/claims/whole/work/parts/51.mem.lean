/-! ===== memory, by getters and setters ===== -/
abbrev MM : Type := (Nat → Nat) × (Nat → Nat) × (Nat → Nat → Int32) × (Nat → Nat → Option Nat) × (Nat → Nat → Int32) × (Nat → Nat → Int64) × (Nat → Nat → Option Nat) × Nat × Nat × Nat × (Nat → Int32)
/-- kinds of cells: 0 to 9 objects, 20 int[], 21 long[], 22 byte[], 23 int[][], 24 Desk[], else an opaque one -/
def sh (M : MM) : Nat → Nat := M.1
def ln (M : MM) : Nat → Nat := M.2.1
def fi (M : MM) : Nat → Nat → Int32 := M.2.2.1
def fr (M : MM) : Nat → Nat → Option Nat := M.2.2.2.1
def ai (M : MM) : Nat → Nat → Int32 := M.2.2.2.2.1
def al (M : MM) : Nat → Nat → Int64 := M.2.2.2.2.2.1
def aq (M : MM) : Nat → Nat → Option Nat := M.2.2.2.2.2.2.1
def nx (M : MM) : Nat := M.2.2.2.2.2.2.2.1
def sl (M : MM) : Nat := M.2.2.2.2.2.2.2.2.1
def sL (M : MM) : Nat := M.2.2.2.2.2.2.2.2.2.1
def sX (M : MM) : Nat → Int32 := M.2.2.2.2.2.2.2.2.2.2
def up2 {α : Type} (f : Nat → Nat → α) (a k : Nat) (x : α) : Nat → Nat → α := fun b j => if b = a ∧ j = k then x else f b j
def setI (M : MM) (a k : Nat) (x : Int32) : MM := (sh M, ln M, up2 (fi M) a k x, fr M, ai M, al M, aq M, nx M, sl M, sL M, sX M)
def setR (M : MM) (a k : Nat) (x : Option Nat) : MM := (sh M, ln M, fi M, up2 (fr M) a k x, ai M, al M, aq M, nx M, sl M, sL M, sX M)
def setA (M : MM) (a : Nat) (f : Nat → Int32) : MM := (sh M, ln M, fi M, fr M, va_up (ai M) a f, al M, aq M, nx M, sl M, sL M, sX M)
def setL (M : MM) (a : Nat) (f : Nat → Int64) : MM := (sh M, ln M, fi M, fr M, ai M, va_up (al M) a f, aq M, nx M, sl M, sL M, sX M)
def setQ (M : MM) (a : Nat) (f : Nat → Option Nat) : MM := (sh M, ln M, fi M, fr M, ai M, al M, va_up (aq M) a f, nx M, sl M, sL M, sX M)
/-- a new object of a class -/
def xO (M : MM) (ci : Nat) : MM := (va_up (sh M) (nx M) ci, ln M, va_up (fi M) (nx M) (fun _ => 0), va_up (fr M) (nx M) (fun _ => none), ai M, al M, aq M, nx M + 1, sl M + clN ci, sL M, sX M)
/-- a new array: 20 int[], 21 long[], 22 byte[], 24 Desk[] -/
def xA (M : MM) (t n : Nat) : MM := (va_up (sh M) (nx M) t, va_up (ln M) (nx M) n, fi M, fr M, va_up (ai M) (nx M) (fun _ => 0), va_up (al M) (nx M) (fun _ => 0), va_up (aq M) (nx M) (fun _ => none), nx M + 1, sl M + n, sL M, sX M)
/-- rows of ints: N of K -/
def xR (M : MM) (N K : Nat) : MM := (fun j => if j = nx M then 23 else if nx M < j ∧ j ≤ nx M + N then 20 else sh M j, fun j => if j = nx M then N else if nx M < j ∧ j ≤ nx M + N then K else ln M j, fi M, fr M, fun j => if nx M < j ∧ j ≤ nx M + N then (fun _ => 0) else ai M j, al M, va_up (aq M) (nx M) (fun i => if i < N then some (nx M + 1 + i) else none), nx M + (1 + N), sl M + (N + N * K), sL M, sX M)
/-- something thrown -/
def xX (M : MM) : MM := (va_up (sh M) (nx M) 99, ln M, fi M, fr M, ai M, al M, aq M, nx M + 1, sl M + 6, sL M, sX M)
def isI (ci k : Nat) : Bool := match clTy ci k with
  | .int => true
  | _ => false
def fld (M : MM) (ci a k : Nat) : Value := if isI ci k = true then .int (fi M a k) else va_rf (fr M a k)
def cel (M : MM) (a : Nat) : va_E := if a = 2000000 then .inl (77, sL M, .inl (sX M)) else if sh M a = 20 then .inl (0, ln M a, .inl (ai M a)) else if sh M a = 21 then .inl (1, ln M a, .inr (.inl (al M a))) else if sh M a = 22 then .inl (2, ln M a, .inl (ai M a)) else if sh M a = 23 then .inl (3, ln M a, .inr (.inr (.inr (.inr (aq M a))))) else if sh M a = 24 then .inl (4, ln M a, .inr (.inr (.inr (.inr (aq M a))))) else if sh M a < 10 then .inr (sh M a, (List.range (clN (sh M a))).map (fld M (sh M a) a)) else .inr (99, [])
def toH (M : MM) : AH := (cel M, nx M, sl M)
def cl (M : MM) (a : Nat) : Nat := if a < nx M ∧ a < 2000000 then sh M a else 99
theorem cl_inv {M : MM} {a c : Nat} (h : cl M a = c) (hc : c ≠ 99) : a < nx M ∧ a ≠ 2000000 ∧ sh M a = c := by
  unfold cl at h
  split at h
  · rename_i g; exact ⟨g.1, by omega, h⟩
  · exact absurd h.symm hc
theorem oAt_t {M : MM} {a ci : Nat} (h : cl M a = ci) (hc : ci < 10) : oAt (toH M) a = some (ci, (List.range (clN ci)).map (fld M ci a)) := by
  obtain ⟨h1, h2, h3⟩ := cl_inv h (by omega)
  unfold oAt
  rw [if_pos (show a < (toH M).2.1 from h1)]
  show (match cel M a with
    | .inr o => some o
    | .inl _ => none) = _
  unfold cel
  rw [h3, if_neg h2, if_neg (by omega), if_neg (by omega), if_neg (by omega), if_neg (by omega), if_neg (by omega), if_pos hc]
theorem rAt_t {M : MM} {a c : Nat} (h : cl M a = c) (hc : c ≠ 99) (x : Nat × vp_A) (hx : cel M a = .inl x) : rAt (toH M) a = some x := by
  obtain ⟨h1, h2, h3⟩ := cl_inv h hc
  unfold rAt
  rw [if_pos (show a < (toH M).2.1 from h1)]
  show (match cel M a with
    | .inl x => some x
    | .inr _ => none) = _
  rw [hx]
theorem cel20 {M : MM} {a : Nat} (h : cl M a = 20) : cel M a = .inl (0, ln M a, .inl (ai M a)) := by
  obtain ⟨h1, h2, h3⟩ := cl_inv h (by omega)
  unfold cel
  rw [h3, if_neg h2, if_pos rfl]
theorem cel21 {M : MM} {a : Nat} (h : cl M a = 21) : cel M a = .inl (1, ln M a, .inr (.inl (al M a))) := by
  obtain ⟨h1, h2, h3⟩ := cl_inv h (by omega)
  unfold cel
  rw [h3, if_neg h2, if_neg (by omega), if_pos rfl]
theorem cel22 {M : MM} {a : Nat} (h : cl M a = 22) : cel M a = .inl (2, ln M a, .inl (ai M a)) := by
  obtain ⟨h1, h2, h3⟩ := cl_inv h (by omega)
  unfold cel
  rw [h3, if_neg h2, if_neg (by omega), if_neg (by omega), if_pos rfl]
theorem cel23 {M : MM} {a : Nat} (h : cl M a = 23) : cel M a = .inl (3, ln M a, .inr (.inr (.inr (.inr (aq M a))))) := by
  obtain ⟨h1, h2, h3⟩ := cl_inv h (by omega)
  unfold cel
  rw [h3, if_neg h2, if_neg (by omega), if_neg (by omega), if_neg (by omega), if_pos rfl]
theorem cel24 {M : MM} {a : Nat} (h : cl M a = 24) : cel M a = .inl (4, ln M a, .inr (.inr (.inr (.inr (aq M a))))) := by
  obtain ⟨h1, h2, h3⟩ := cl_inv h (by omega)
  unfold cel
  rw [h3, if_neg h2, if_neg (by omega), if_neg (by omega), if_neg (by omega), if_neg (by omega), if_pos rfl]
theorem iAt_t {M : MM} {a : Nat} (h : cl M a = 20) : iAt 0 (toH M) a = some (ln M a, ai M a) := by
  unfold iAt; rw [rAt_t h (by omega) _ (cel20 h)]; rfl
theorem bAt_t {M : MM} {a : Nat} (h : cl M a = 22) : iAt 2 (toH M) a = some (ln M a, ai M a) := by
  unfold iAt; rw [rAt_t h (by omega) _ (cel22 h)]; rfl
theorem lAt_t {M : MM} {a : Nat} (h : cl M a = 21) : lAt (toH M) a = some (ln M a, al M a) := by
  unfold lAt; rw [rAt_t h (by omega) _ (cel21 h)]; rfl
theorem qAt_t3 {M : MM} {a : Nat} (h : cl M a = 23) : qAt (toH M) a = some (3, ln M a, aq M a) := by
  unfold qAt; rw [rAt_t h (by omega) _ (cel23 h)]; rfl
theorem qAt_t4 {M : MM} {a : Nat} (h : cl M a = 24) : qAt (toH M) a = some (4, ln M a, aq M a) := by
  unfold qAt; rw [rAt_t h (by omega) _ (cel24 h)]; rfl
theorem scAt_n {M : MM} {a c : Nat} (h : cl M a = c) (hc : c ≠ 99) : scAt (toH M) a = none := by
  unfold scAt; rw [if_neg (cl_inv h hc).2.1]
theorem scAt_t {M : MM} : scAt (toH M) 2000000 = some (sL M, sX M) := by
  unfold scAt
  rw [if_pos rfl]
  show (match cel M 2000000 with
    | .inl (77, n, .inl f) => some (n, f)
    | _ => none) = _
  unfold cel
  rw [if_pos rfl]
  rfl
theorem fld_I {M : MM} {ci a k : Nat} (h : isI ci k = true) : fld M ci a k = .int (fi M a k) := by unfold fld; rw [if_pos h]
theorem fld_R {M : MM} {ci a k : Nat} (h : isI ci k = false) : fld M ci a k = va_rf (fr M a k) := by unfold fld; rw [if_neg (by rw [h]; decide)]
theorem map_set {n k : Nat} {f g : Nat → Value} {v : Value} (hk : g k = v) (hn : ∀ j, j ≠ k → g j = f j) : ((List.range n).map f).set k v = (List.range n).map g := by
  apply List.ext_getElem?
  intro j
  by_cases e : j = k
  · subst e
    by_cases hj : j < n
    · rw [List.getElem?_set_self (by simpa using hj)]; simp [hj, hk]
    · simp [List.getElem?_eq_none (l := ((List.range n).map f).set j v) (by simpa using hj), List.getElem?_eq_none (l := (List.range n).map g) (by simpa using hj)]
  · rw [List.getElem?_set_ne (fun z => e z.symm)]
    by_cases hj : j < n
    · simp [hj, hn j e]
    · rw [List.getElem?_eq_none (by simpa using hj), List.getElem?_eq_none (by simpa using hj)]
theorem cel_ne {M M' : MM} {b : Nat} (h1 : sh M' b = sh M b) (h2 : ln M' b = ln M b) (h3 : ∀ k, fi M' b k = fi M b k) (h4 : ∀ k, fr M' b k = fr M b k) (h5 : ai M' b = ai M b) (h6 : al M' b = al M b) (h7 : aq M' b = aq M b) (h8 : sL M' = sL M) (h9 : sX M' = sX M) : cel M' b = cel M b := by
  have h10 : fld M' (sh M b) b = fld M (sh M b) b := by funext k; unfold fld; rw [h3, h4]
  unfold cel
  rw [h1, h2, h5, h6, h7, h8, h9, h10]
theorem up2_ne {α : Type} {f : Nat → Nat → α} {a k b : Nat} {x : α} (h : b ≠ a) (j : Nat) : up2 f a k x b j = f b j := by unfold up2; rw [if_neg (fun z => h z.1)]
theorem hput_I {M : MM} {a ci k : Nat} {x : Int32} (h : cl M a = ci) (hc : ci < 10) (hi : isI ci k = true) : hput (toH M) a (.inr (ci, ((List.range (clN ci)).map (fld M ci a)).set k (.int x))) = toH (setI M a k x) := by
  obtain ⟨h1, h2, h3⟩ := cl_inv h (by omega)
  have hf : va_up (cel M) a (.inr (ci, ((List.range (clN ci)).map (fld M ci a)).set k (.int x))) = cel (setI M a k x) := by
    funext b
    unfold va_up
    by_cases e : b = a
    · subst e
      rw [if_pos rfl]
      unfold cel
      show _ = if b = 2000000 then _ else if sh M b = 20 then _ else if sh M b = 21 then _ else if sh M b = 22 then _ else if sh M b = 23 then _ else if sh M b = 24 then _ else if sh M b < 10 then Sum.inr (sh M b, (List.range (clN (sh M b))).map (fld (setI M b k x) (sh M b) b)) else _
      rw [h3, if_neg h2, if_neg (by omega), if_neg (by omega), if_neg (by omega), if_neg (by omega), if_neg (by omega), if_pos hc]
      rw [map_set (g := fld (setI M b k x) ci b)]
      · rw [fld_I hi]; show Value.int (up2 _ _ _ _ _ _) = _; unfold up2; rw [if_pos ⟨rfl, rfl⟩]
      · intro j hj
        unfold fld
        have e1 : fi (setI M b k x) b j = fi M b j := if_neg (fun z => hj z.2)
        rw [e1]; rfl
    · rw [if_neg e]
      exact (cel_ne (M := M) (M' := setI M a k x) rfl rfl (fun j => up2_ne e j) (fun _ => rfl) rfl rfl rfl rfl rfl).symm
  show (va_up (cel M) a _, _) = _
  rw [hf]; rfl
theorem hput_R {M : MM} {a ci k : Nat} {x : Option Nat} (h : cl M a = ci) (hc : ci < 10) (hi : isI ci k = false) : hput (toH M) a (.inr (ci, ((List.range (clN ci)).map (fld M ci a)).set k (va_rf x))) = toH (setR M a k x) := by
  obtain ⟨h1, h2, h3⟩ := cl_inv h (by omega)
  have hf : va_up (cel M) a (.inr (ci, ((List.range (clN ci)).map (fld M ci a)).set k (va_rf x))) = cel (setR M a k x) := by
    funext b
    unfold va_up
    by_cases e : b = a
    · subst e
      rw [if_pos rfl]
      unfold cel
      show _ = if b = 2000000 then _ else if sh M b = 20 then _ else if sh M b = 21 then _ else if sh M b = 22 then _ else if sh M b = 23 then _ else if sh M b = 24 then _ else if sh M b < 10 then Sum.inr (sh M b, (List.range (clN (sh M b))).map (fld (setR M b k x) (sh M b) b)) else _
      rw [h3, if_neg h2, if_neg (by omega), if_neg (by omega), if_neg (by omega), if_neg (by omega), if_neg (by omega), if_pos hc]
      rw [map_set (g := fld (setR M b k x) ci b)]
      · rw [fld_R hi]; show va_rf (up2 _ _ _ _ _ _) = _; unfold up2; rw [if_pos ⟨rfl, rfl⟩]
      · intro j hj
        unfold fld
        have e1 : fr (setR M b k x) b j = fr M b j := if_neg (fun z => hj z.2)
        rw [e1]; rfl
    · rw [if_neg e]
      exact (cel_ne (M := M) (M' := setR M a k x) rfl rfl (fun _ => rfl) (fun j => up2_ne e j) rfl rfl rfl rfl rfl).symm
  show (va_up (cel M) a _, _) = _
  rw [hf]; rfl
theorem va_ne {α : Type} {f : Nat → α} {a b : Nat} {x : α} (h : b ≠ a) : va_up f a x b = f b := by unfold va_up; rw [if_neg h]
theorem va_eq {α : Type} {f : Nat → α} {a : Nat} {x : α} : va_up f a x a = x := by unfold va_up; rw [if_pos rfl]
theorem hput_A {M : MM} {a : Nat} {f : Nat → Int32} (h : cl M a = 20) : hput (toH M) a (.inl (0, ln M a, .inl f)) = toH (setA M a f) := by
  obtain ⟨h1, h2, h3⟩ := cl_inv h (by omega)
  have hf : va_up (cel M) a (.inl (0, ln M a, .inl f)) = cel (setA M a f) := by
    funext b
    by_cases e : b = a
    · subst e
      rw [va_eq]
      have hc : cl (setA M b f) b = 20 := h
      rw [cel20 hc]
      show _ = Sum.inl (0, ln M b, Sum.inl (va_up (ai M) b f b))
      rw [va_eq]
    · rw [va_ne e]
      exact (cel_ne (M := M) (M' := setA M a f) rfl rfl (fun _ => rfl) (fun _ => rfl) (va_ne e) rfl rfl rfl rfl).symm
  show (va_up (cel M) a _, _) = _
  rw [hf]; rfl
theorem hput_B {M : MM} {a : Nat} {f : Nat → Int32} (h : cl M a = 22) : hput (toH M) a (.inl (2, ln M a, .inl f)) = toH (setA M a f) := by
  obtain ⟨h1, h2, h3⟩ := cl_inv h (by omega)
  have hf : va_up (cel M) a (.inl (2, ln M a, .inl f)) = cel (setA M a f) := by
    funext b
    by_cases e : b = a
    · subst e
      rw [va_eq]
      have hc : cl (setA M b f) b = 22 := h
      rw [cel22 hc]
      show _ = Sum.inl (2, ln M b, Sum.inl (va_up (ai M) b f b))
      rw [va_eq]
    · rw [va_ne e]
      exact (cel_ne (M := M) (M' := setA M a f) rfl rfl (fun _ => rfl) (fun _ => rfl) (va_ne e) rfl rfl rfl rfl).symm
  show (va_up (cel M) a _, _) = _
  rw [hf]; rfl
theorem hput_L {M : MM} {a : Nat} {f : Nat → Int64} (h : cl M a = 21) : hput (toH M) a (.inl (1, ln M a, .inr (.inl f))) = toH (setL M a f) := by
  obtain ⟨h1, h2, h3⟩ := cl_inv h (by omega)
  have hf : va_up (cel M) a (.inl (1, ln M a, .inr (.inl f))) = cel (setL M a f) := by
    funext b
    by_cases e : b = a
    · subst e
      rw [va_eq]
      have hc : cl (setL M b f) b = 21 := h
      rw [cel21 hc]
      show _ = Sum.inl (1, ln M b, Sum.inr (Sum.inl (va_up (al M) b f b)))
      rw [va_eq]
    · rw [va_ne e]
      exact (cel_ne (M := M) (M' := setL M a f) rfl rfl (fun _ => rfl) (fun _ => rfl) rfl (va_ne e) rfl rfl rfl).symm
  show (va_up (cel M) a _, _) = _
  rw [hf]; rfl
theorem hput_Q {M : MM} {a : Nat} {f : Nat → Option Nat} (h : cl M a = 24) : hput (toH M) a (.inl (4, ln M a, .inr (.inr (.inr (.inr f))))) = toH (setQ M a f) := by
  obtain ⟨h1, h2, h3⟩ := cl_inv h (by omega)
  have hf : va_up (cel M) a (.inl (4, ln M a, .inr (.inr (.inr (.inr f))))) = cel (setQ M a f) := by
    funext b
    by_cases e : b = a
    · subst e
      rw [va_eq]
      have hc : cl (setQ M b f) b = 24 := h
      rw [cel24 hc]
      show _ = Sum.inl (4, ln M b, Sum.inr (Sum.inr (Sum.inr (Sum.inr (va_up (aq M) b f b)))))
      rw [va_eq]
    · rw [va_ne e]
      exact (cel_ne (M := M) (M' := setQ M a f) rfl rfl (fun _ => rfl) (fun _ => rfl) rfl rfl (va_ne e) rfl rfl).symm
  show (va_up (cel M) a _, _) = _
  rw [hf]; rfl
theorem dfl_eq {M : MM} {ci : Nat} (hc : ci < 10) : dfl ci = (List.range (clN ci)).map (fld (xO M ci) ci (nx M)) := by
  have hk : ∀ ci, ci < 10 → ∀ k, k < clN ci → defaultValue (clTy ci k) = (if isI ci k = true then .int 0 else .null) := by decide +kernel
  unfold dfl
  apply List.map_congr_left
  intro k hk2
  rw [hk ci hc k (List.mem_range.mp hk2)]
  unfold fld
  have e1 : fi (xO M ci) (nx M) = fun _ => 0 := va_eq
  have e2 : fr (xO M ci) (nx M) = fun _ => none := va_eq
  rw [e1, e2]
  rfl
theorem hnew_O {M : MM} {ci : Nat} (hc : ci < 10) (hn : nx M < 1000000) : hnew (toH M) (.inr (ci, dfl ci)) (clN ci) = toH (xO M ci) := by
  have hf : va_up (cel M) (nx M) (.inr (ci, dfl ci)) = cel (xO M ci) := by
    funext b
    by_cases e : b = nx M
    · subst e
      rw [va_eq]
      unfold cel
      have hs : sh (xO M ci) (nx M) = ci := va_eq
      rw [hs, if_neg (by omega), if_neg (by omega), if_neg (by omega), if_neg (by omega), if_neg (by omega), if_neg (by omega), if_pos hc, ← dfl_eq hc]
    · rw [va_ne e]
      exact (cel_ne (M := M) (M' := xO M ci) (va_ne e) rfl (fun _ => congrFun (va_ne e) _) (fun _ => congrFun (va_ne e) _) rfl rfl rfl rfl rfl).symm
  show (va_up (cel M) (nx M) _, _) = _
  rw [hf]; rfl
theorem hnew_A {M : MM} {t n : Nat} {e : va_E} (ht : (t = 20 ∧ e = .inl (0, n, .inl (fun _ => 0))) ∨ (t = 21 ∧ e = .inl (1, n, .inr (.inl (fun _ => 0)))) ∨ (t = 22 ∧ e = .inl (2, n, .inl (fun _ => 0))) ∨ (t = 24 ∧ e = .inl (4, n, .inr (.inr (.inr (.inr (fun _ => none))))))) (hn : nx M < 1000000) : hnew (toH M) e n = toH (xA M t n) := by
  have hf : va_up (cel M) (nx M) e = cel (xA M t n) := by
    funext b
    by_cases e1 : b = nx M
    · subst e1
      rw [va_eq]
      have hs : sh (xA M t n) (nx M) = t := va_eq
      have h1 : ln (xA M t n) (nx M) = n := va_eq
      have h2 : ai (xA M t n) (nx M) = fun _ => 0 := va_eq
      have h3 : al (xA M t n) (nx M) = fun _ => 0 := va_eq
      have h4 : aq (xA M t n) (nx M) = fun _ => none := va_eq
      unfold cel
      rw [hs, h1, h2, h3, h4, if_neg (by omega)]
      rcases ht with ⟨rfl, rfl⟩ | ⟨rfl, rfl⟩ | ⟨rfl, rfl⟩ | ⟨rfl, rfl⟩ <;> rfl
    · rw [va_ne e1]
      exact (cel_ne (M := M) (M' := xA M t n) (va_ne e1) (va_ne e1) (fun _ => rfl) (fun _ => rfl) (va_ne e1) (va_ne e1) (va_ne e1) rfl rfl).symm
  show (va_up (cel M) (nx M) _, _) = _
  rw [hf]; rfl
theorem hnew_X {M : MM} (hn : nx M < 1000000) : hnew (toH M) (.inr (99, [])) 6 = toH (xX M) := by
  have hf : va_up (cel M) (nx M) (.inr (99, [])) = cel (xX M) := by
    funext b
    by_cases e1 : b = nx M
    · subst e1
      rw [va_eq]
      have hs : sh (xX M) (nx M) = 99 := va_eq
      unfold cel
      rw [hs, if_neg (by omega)]
      rfl
    · rw [va_ne e1]
      exact (cel_ne (M := M) (M' := xX M) (va_ne e1) rfl (fun _ => rfl) (fun _ => rfl) rfl rfl rfl rfl rfl).symm
  show (va_up (cel M) (nx M) _, _) = _
  rw [hf]; rfl
theorem hmna_M {M : MM} {N K : Nat} (hn : nx M + (1 + N) ≤ 1000000) : hmna (toH M) N K = toH (xR M N K) := by
  have hf : (fun j => if j = nx M then Sum.inl (3, N, .inr (.inr (.inr (.inr (fun i => if i < N then some (nx M + 1 + i) else none))))) else if nx M < j ∧ j ≤ nx M + N then .inl (0, K, .inl (fun _ => 0)) else cel M j) = cel (xR M N K) := by
    funext b
    by_cases e1 : b = nx M
    · subst e1
      have hs : sh (xR M N K) (nx M) = 23 := if_pos rfl
      have h1 : ln (xR M N K) (nx M) = N := if_pos rfl
      have h4 : aq (xR M N K) (nx M) = fun i => if i < N then some (nx M + 1 + i) else none := va_eq
      rw [if_pos rfl]
      unfold cel
      rw [hs, h1, h4, if_neg (by omega)]
      rfl
    · rw [if_neg e1]
      by_cases e2 : nx M < b ∧ b ≤ nx M + N
      · have hs : sh (xR M N K) b = 20 := (if_neg e1).trans (if_pos e2)
        have h1 : ln (xR M N K) b = K := (if_neg e1).trans (if_pos e2)
        have h4 : ai (xR M N K) b = fun _ => 0 := if_pos e2
        rw [if_pos e2]
        unfold cel
        rw [hs, h1, h4, if_neg (by omega)]
        rfl
      · rw [if_neg e2]
        exact (cel_ne (M := M) (M' := xR M N K) ((if_neg e1).trans (if_neg e2)) ((if_neg e1).trans (if_neg e2)) (fun _ => rfl) (fun _ => rfl) (if_neg e2) rfl (va_ne e1) rfl rfl).symm
  show (_, _, _) = (_, _, _)
  exact congrArg (fun z => (z, nx M + (1 + N), sl M + (N + N * K))) hf
/-! getters behind setters -/
theorem sh_setI (M : MM) (a k : Nat) (x : Int32) : sh (setI M a k x) = sh M := rfl
theorem ln_setI (M : MM) (a k : Nat) (x : Int32) : ln (setI M a k x) = ln M := rfl
theorem fr_setI (M : MM) (a k : Nat) (x : Int32) : fr (setI M a k x) = fr M := rfl
theorem ai_setI (M : MM) (a k : Nat) (x : Int32) : ai (setI M a k x) = ai M := rfl
theorem al_setI (M : MM) (a k : Nat) (x : Int32) : al (setI M a k x) = al M := rfl
theorem aq_setI (M : MM) (a k : Nat) (x : Int32) : aq (setI M a k x) = aq M := rfl
theorem nx_setI (M : MM) (a k : Nat) (x : Int32) : nx (setI M a k x) = nx M := rfl
theorem sl_setI (M : MM) (a k : Nat) (x : Int32) : sl (setI M a k x) = sl M := rfl
theorem sL_setI (M : MM) (a k : Nat) (x : Int32) : sL (setI M a k x) = sL M := rfl
theorem sX_setI (M : MM) (a k : Nat) (x : Int32) : sX (setI M a k x) = sX M := rfl
theorem cl_setI (M : MM) (a k : Nat) (x : Int32) : cl (setI M a k x) = cl M := rfl
theorem sh_setR (M : MM) (a k : Nat) (x : Option Nat) : sh (setR M a k x) = sh M := rfl
theorem ln_setR (M : MM) (a k : Nat) (x : Option Nat) : ln (setR M a k x) = ln M := rfl
theorem fi_setR (M : MM) (a k : Nat) (x : Option Nat) : fi (setR M a k x) = fi M := rfl
theorem ai_setR (M : MM) (a k : Nat) (x : Option Nat) : ai (setR M a k x) = ai M := rfl
theorem al_setR (M : MM) (a k : Nat) (x : Option Nat) : al (setR M a k x) = al M := rfl
theorem aq_setR (M : MM) (a k : Nat) (x : Option Nat) : aq (setR M a k x) = aq M := rfl
theorem nx_setR (M : MM) (a k : Nat) (x : Option Nat) : nx (setR M a k x) = nx M := rfl
theorem sl_setR (M : MM) (a k : Nat) (x : Option Nat) : sl (setR M a k x) = sl M := rfl
theorem sL_setR (M : MM) (a k : Nat) (x : Option Nat) : sL (setR M a k x) = sL M := rfl
theorem sX_setR (M : MM) (a k : Nat) (x : Option Nat) : sX (setR M a k x) = sX M := rfl
theorem cl_setR (M : MM) (a k : Nat) (x : Option Nat) : cl (setR M a k x) = cl M := rfl
theorem sh_setA (M : MM) (a : Nat) (f : Nat → Int32) : sh (setA M a f) = sh M := rfl
theorem ln_setA (M : MM) (a : Nat) (f : Nat → Int32) : ln (setA M a f) = ln M := rfl
theorem fi_setA (M : MM) (a : Nat) (f : Nat → Int32) : fi (setA M a f) = fi M := rfl
theorem fr_setA (M : MM) (a : Nat) (f : Nat → Int32) : fr (setA M a f) = fr M := rfl
theorem al_setA (M : MM) (a : Nat) (f : Nat → Int32) : al (setA M a f) = al M := rfl
theorem aq_setA (M : MM) (a : Nat) (f : Nat → Int32) : aq (setA M a f) = aq M := rfl
theorem nx_setA (M : MM) (a : Nat) (f : Nat → Int32) : nx (setA M a f) = nx M := rfl
theorem sl_setA (M : MM) (a : Nat) (f : Nat → Int32) : sl (setA M a f) = sl M := rfl
theorem sL_setA (M : MM) (a : Nat) (f : Nat → Int32) : sL (setA M a f) = sL M := rfl
theorem sX_setA (M : MM) (a : Nat) (f : Nat → Int32) : sX (setA M a f) = sX M := rfl
theorem cl_setA (M : MM) (a : Nat) (f : Nat → Int32) : cl (setA M a f) = cl M := rfl
theorem sh_setL (M : MM) (a : Nat) (f : Nat → Int64) : sh (setL M a f) = sh M := rfl
theorem ln_setL (M : MM) (a : Nat) (f : Nat → Int64) : ln (setL M a f) = ln M := rfl
theorem fi_setL (M : MM) (a : Nat) (f : Nat → Int64) : fi (setL M a f) = fi M := rfl
theorem fr_setL (M : MM) (a : Nat) (f : Nat → Int64) : fr (setL M a f) = fr M := rfl
theorem ai_setL (M : MM) (a : Nat) (f : Nat → Int64) : ai (setL M a f) = ai M := rfl
theorem aq_setL (M : MM) (a : Nat) (f : Nat → Int64) : aq (setL M a f) = aq M := rfl
theorem nx_setL (M : MM) (a : Nat) (f : Nat → Int64) : nx (setL M a f) = nx M := rfl
theorem sl_setL (M : MM) (a : Nat) (f : Nat → Int64) : sl (setL M a f) = sl M := rfl
theorem sL_setL (M : MM) (a : Nat) (f : Nat → Int64) : sL (setL M a f) = sL M := rfl
theorem sX_setL (M : MM) (a : Nat) (f : Nat → Int64) : sX (setL M a f) = sX M := rfl
theorem cl_setL (M : MM) (a : Nat) (f : Nat → Int64) : cl (setL M a f) = cl M := rfl
theorem sh_setQ (M : MM) (a : Nat) (f : Nat → Option Nat) : sh (setQ M a f) = sh M := rfl
theorem ln_setQ (M : MM) (a : Nat) (f : Nat → Option Nat) : ln (setQ M a f) = ln M := rfl
theorem fi_setQ (M : MM) (a : Nat) (f : Nat → Option Nat) : fi (setQ M a f) = fi M := rfl
theorem fr_setQ (M : MM) (a : Nat) (f : Nat → Option Nat) : fr (setQ M a f) = fr M := rfl
theorem ai_setQ (M : MM) (a : Nat) (f : Nat → Option Nat) : ai (setQ M a f) = ai M := rfl
theorem al_setQ (M : MM) (a : Nat) (f : Nat → Option Nat) : al (setQ M a f) = al M := rfl
theorem nx_setQ (M : MM) (a : Nat) (f : Nat → Option Nat) : nx (setQ M a f) = nx M := rfl
theorem sl_setQ (M : MM) (a : Nat) (f : Nat → Option Nat) : sl (setQ M a f) = sl M := rfl
theorem sL_setQ (M : MM) (a : Nat) (f : Nat → Option Nat) : sL (setQ M a f) = sL M := rfl
theorem sX_setQ (M : MM) (a : Nat) (f : Nat → Option Nat) : sX (setQ M a f) = sX M := rfl
theorem cl_setQ (M : MM) (a : Nat) (f : Nat → Option Nat) : cl (setQ M a f) = cl M := rfl
theorem fi_setI (M : MM) (a k b j : Nat) (x : Int32) : fi (setI M a k x) b j = if b = a ∧ j = k then x else fi M b j := rfl
theorem fr_setR (M : MM) (a k b j : Nat) (x : Option Nat) : fr (setR M a k x) b j = if b = a ∧ j = k then x else fr M b j := rfl
theorem ai_setA (M : MM) (a b : Nat) (f : Nat → Int32) : ai (setA M a f) b = if b = a then f else ai M b := rfl
theorem al_setL (M : MM) (a b : Nat) (f : Nat → Int64) : al (setL M a f) b = if b = a then f else al M b := rfl
theorem aq_setQ (M : MM) (a b : Nat) (f : Nat → Option Nat) : aq (setQ M a f) b = if b = a then f else aq M b := rfl
theorem nx_xO (M : MM) (ci : Nat) : nx (xO M ci) = nx M + 1 := rfl
theorem sl_xO (M : MM) (ci : Nat) : sl (xO M ci) = sl M + clN ci := rfl
theorem nx_xA (M : MM) (t n : Nat) : nx (xA M t n) = nx M + 1 := rfl
theorem sl_xA (M : MM) (t n : Nat) : sl (xA M t n) = sl M + n := rfl
theorem nx_xX (M : MM) : nx (xX M) = nx M + 1 := rfl
theorem sl_xX (M : MM) : sl (xX M) = sl M + 6 := rfl
theorem nx_xR (M : MM) (N K : Nat) : nx (xR M N K) = nx M + (1 + N) := rfl
theorem sl_xR (M : MM) (N K : Nat) : sl (xR M N K) = sl M + (N + N * K) := rfl
theorem fi_xO (M : MM) (ci b : Nat) : fi (xO M ci) b = if b = nx M then (fun _ => 0) else fi M b := rfl
theorem fr_xO (M : MM) (ci b : Nat) : fr (xO M ci) b = if b = nx M then (fun _ => none) else fr M b := rfl
theorem ai_xA (M : MM) (t n b : Nat) : ai (xA M t n) b = if b = nx M then (fun _ => 0) else ai M b := rfl
theorem al_xA (M : MM) (t n b : Nat) : al (xA M t n) b = if b = nx M then (fun _ => 0) else al M b := rfl
theorem aq_xA (M : MM) (t n b : Nat) : aq (xA M t n) b = if b = nx M then (fun _ => none) else aq M b := rfl
theorem ln_xA (M : MM) (t n b : Nat) : ln (xA M t n) b = if b = nx M then n else ln M b := rfl
theorem ai_xR (M : MM) (N K b : Nat) : ai (xR M N K) b = if nx M < b ∧ b ≤ nx M + N then (fun _ => 0) else ai M b := rfl
theorem aq_xR (M : MM) (N K b : Nat) : aq (xR M N K) b = if b = nx M then (fun i => if i < N then some (nx M + 1 + i) else none) else aq M b := rfl
theorem ln_xR (M : MM) (N K b : Nat) : ln (xR M N K) b = if b = nx M then N else if nx M < b ∧ b ≤ nx M + N then K else ln M b := rfl
theorem cl_xO (M : MM) (ci b : Nat) (h : nx M < 2000000) : cl (xO M ci) b = if b = nx M then ci else cl M b := by
  unfold cl
  show (if b < nx M + 1 ∧ b < 2000000 then va_up (sh M) (nx M) ci b else 99) = _
  by_cases e : b = nx M
  · subst e; rw [if_pos rfl, if_pos ⟨by omega, by omega⟩, va_eq]
  · rw [if_neg e, va_ne e]
    by_cases h2 : b < nx M ∧ b < 2000000
    · rw [if_pos h2, if_pos ⟨by omega, h2.2⟩]
    · rw [if_neg h2, if_neg (by omega)]
theorem cl_xA (M : MM) (t n b : Nat) (h : nx M < 2000000) : cl (xA M t n) b = if b = nx M then t else cl M b := by
  unfold cl
  show (if b < nx M + 1 ∧ b < 2000000 then va_up (sh M) (nx M) t b else 99) = _
  by_cases e : b = nx M
  · subst e; rw [if_pos rfl, if_pos ⟨by omega, by omega⟩, va_eq]
  · rw [if_neg e, va_ne e]
    by_cases h2 : b < nx M ∧ b < 2000000
    · rw [if_pos h2, if_pos ⟨by omega, h2.2⟩]
    · rw [if_neg h2, if_neg (by omega)]
theorem cl_xX (M : MM) (b : Nat) : cl (xX M) b = cl M b := by
  unfold cl
  show (if b < nx M + 1 ∧ b < 2000000 then va_up (sh M) (nx M) 99 b else 99) = _
  by_cases e : b = nx M
  · subst e
    rw [va_eq, if_neg (c := nx M < nx M ∧ nx M < 2000000) (fun z => Nat.lt_irrefl _ z.1)]
    split <;> rfl
  · rw [va_ne e]
    by_cases h2 : b < nx M ∧ b < 2000000
    · rw [if_pos h2, if_pos ⟨by omega, h2.2⟩]
    · rw [if_neg h2, if_neg (by omega)]
theorem cl_xR (M : MM) (N K b : Nat) (h : nx M + (1 + N) ≤ 1000000) : cl (xR M N K) b = if b = nx M then 23 else if nx M < b ∧ b ≤ nx M + N then 20 else cl M b := by
  unfold cl
  show (if b < nx M + (1 + N) ∧ b < 2000000 then (if b = nx M then 23 else if nx M < b ∧ b ≤ nx M + N then 20 else sh M b) else 99) = _
  by_cases e : b = nx M
  · subst e; rw [if_pos rfl, if_pos ⟨by omega, by omega⟩, if_pos rfl]
  · rw [if_neg e]
    by_cases e2 : nx M < b ∧ b ≤ nx M + N
    · rw [if_pos e2, if_pos e2, if_pos ⟨by omega, by omega⟩, if_neg e]
    · rw [if_neg e2, if_neg e2]
      by_cases h2 : b < nx M ∧ b < 2000000
      · rw [if_pos h2, if_pos ⟨by omega, h2.2⟩, if_neg e]
      · rw [if_neg h2, if_neg e, if_neg (by omega)]
theorem ln_xO (M : MM) (ci : Nat) : ln (xO M ci) = ln M := rfl
theorem ai_xO (M : MM) (ci : Nat) : ai (xO M ci) = ai M := rfl
theorem al_xO (M : MM) (ci : Nat) : al (xO M ci) = al M := rfl
theorem aq_xO (M : MM) (ci : Nat) : aq (xO M ci) = aq M := rfl
theorem sL_xO (M : MM) (ci : Nat) : sL (xO M ci) = sL M := rfl
theorem sX_xO (M : MM) (ci : Nat) : sX (xO M ci) = sX M := rfl
theorem fi_xA (M : MM) (t n : Nat) : fi (xA M t n) = fi M := rfl
theorem fr_xA (M : MM) (t n : Nat) : fr (xA M t n) = fr M := rfl
theorem sL_xA (M : MM) (t n : Nat) : sL (xA M t n) = sL M := rfl
theorem sX_xA (M : MM) (t n : Nat) : sX (xA M t n) = sX M := rfl
theorem ln_xX (M : MM) : ln (xX M) = ln M := rfl
theorem fi_xX (M : MM) : fi (xX M) = fi M := rfl
theorem fr_xX (M : MM) : fr (xX M) = fr M := rfl
theorem ai_xX (M : MM) : ai (xX M) = ai M := rfl
theorem al_xX (M : MM) : al (xX M) = al M := rfl
theorem aq_xX (M : MM) : aq (xX M) = aq M := rfl
theorem sL_xX (M : MM) : sL (xX M) = sL M := rfl
theorem sX_xX (M : MM) : sX (xX M) = sX M := rfl
theorem fi_xR (M : MM) (N K : Nat) : fi (xR M N K) = fi M := rfl
theorem fr_xR (M : MM) (N K : Nat) : fr (xR M N K) = fr M := rfl
theorem al_xR (M : MM) (N K : Nat) : al (xR M N K) = al M := rfl
theorem sL_xR (M : MM) (N K : Nat) : sL (xR M N K) = sL M := rfl
theorem sX_xR (M : MM) (N K : Nat) : sX (xR M N K) = sX M := rfl
