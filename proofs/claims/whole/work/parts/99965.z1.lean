/-! ===== what the constructors make: one cell after the other ===== -/
def isA (N : MM) (b t n : Nat) : Prop := b < nx N ∧ sh N b = t ∧ ln N b = n ∧ ai N b = fun _ => 0
def isO (N : MM) (b k : Nat) (f : Nat → Option Nat) (g : Nat → Int32) : Prop := b < nx N ∧ sh N b = k ∧ ln N b = 0 ∧ fr N b = f ∧ fi N b = g
def lnZ (M : MM) : Prop := ∀ b, nx M ≤ b → ln M b = 0
theorem isA.t {S : Nat → Prop} {M N : MM} {b t n : Nat} (h : isA M b t n) (g : Gf S M N) (hs : ¬ S b) : isA N b t n := by
  obtain ⟨h1, h2, h3, h4⟩ := h
  obtain ⟨e1, e2, e3, e4, e5, e6, e7⟩ := g.2.2 b h1 hs
  exact ⟨Nat.lt_of_lt_of_le h1 g.1, e1.trans h2, e2.trans h3, e5.trans h4⟩
theorem isO.t {S : Nat → Prop} {M N : MM} {b k : Nat} {f : Nat → Option Nat} {u : Nat → Int32} (h : isO M b k f u) (g : Gf S M N) (hs : ¬ S b) : isO N b k f u := by
  obtain ⟨h1, h2, h3, h4, h5⟩ := h
  obtain ⟨e1, e2, e3, e4, e5, e6, e7⟩ := g.2.2 b h1 hs
  exact ⟨Nat.lt_of_lt_of_le h1 g.1, e1.trans h2, e2.trans h3, e4.trans h4, e3.trans h5⟩
theorem isO.c {M : MM} {b k : Nat} {f : Nat → Option Nat} {u : Nat → Int32} (h : isO M b k f u) (hb : b < 2000000) : cl M b = k := by
  unfold cl
  rw [if_pos ⟨h.1, hb⟩]
  exact h.2.1
theorem isA.c {M : MM} {b t n : Nat} (h : isA M b t n) (hb : b < 2000000) : cl M b = t := by
  unfold cl
  rw [if_pos ⟨h.1, hb⟩]
  exact h.2.1
theorem Gf.n {S : Nat → Prop} {M N K : MM} {a : Nat} (h : Gf S M N) (g : Gf (fun b => b = a) N K) (ha : nx M ≤ a) : Gf S M K := ⟨Nat.le_trans h.1 g.1, ⟨g.2.1.1.trans h.2.1.1, g.2.1.2.trans h.2.1.2⟩, fun b hb hs => (h.2.2 b hb hs).tr (g.2.2 b (Nat.lt_of_lt_of_le hb h.1) (by omega))⟩
/-- a new array, put into a field of an object -/
theorem mk_A {M : MM} {o j t n a c : Nat} {f : Nat → Option Nat} {u : Nat → Int32} (hO : isO M o c f u) (hn : nx M = a) (ha : a < 900000) (hl : lnZ M) : ∃ Q N, xA M t n = Q ∧ cl Q o = c ∧ setR Q o j (some a) = N ∧ nx N = a + 1 ∧ sl N = sl M + n ∧ Gf (fun b => b = o) M N ∧ isO N o c (va_up f j (some a)) u ∧ isA N a t n ∧ lnZ N ∧ aq N a = (fun _ => none) := by
  obtain ⟨h1, h2, h3, h4, h5⟩ := hO
  have hoa : ¬ o = nx M := by omega
  have c0 : cl (xA M t n) o = c := by
    rw [cl_xA _ _ _ _ (by omega), if_neg hoa]
    unfold cl
    rw [if_pos ⟨h1, by omega⟩]; exact h2
  refine ⟨_, _, rfl, c0, rfl, ?_, rfl, ?_, ?_, ?_, ?_, ?_⟩
  · show nx M + 1 = a + 1; omega
  · exact ⟨Nat.le_succ _, ⟨rfl, rfl⟩, fun b hb hs => ⟨va_ne (by omega), va_ne (by omega), rfl, by funext i; exact fr_na (M := xA M t n) hs, va_ne (by omega), va_ne (by omega), va_ne (by omega)⟩⟩
  · refine ⟨Nat.lt_succ_of_lt h1, (va_ne hoa).trans h2, (va_ne hoa).trans h3, ?_, h5⟩
    funext i
    by_cases hi : i = j
    · rw [hi, va_eq]; exact fr_eq _ _ _ _
    · rw [va_ne hi, fr_nk hi]
      exact congrFun h4 i
  · subst hn
    exact ⟨Nat.lt_succ_self _, va_eq, va_eq, va_eq⟩
  · intro b hb
    have hb : nx M + 1 ≤ b := hb
    exact (va_ne (by omega)).trans (hl b (by omega))
  · subst hn
    exact va_eq
theorem mk_I {M : MM} {o j c : Nat} {f : Nat → Option Nat} {u : Nat → Int32} {x : Int32} (hO : isO M o c f u) (hl : lnZ M) : ∃ N, setI M o j x = N ∧ nx N = nx M ∧ sl N = sl M ∧ Gf (fun b => b = o) M N ∧ isO N o c f (va_up u j x) ∧ lnZ N := by
  obtain ⟨h1, h2, h3, h4, h5⟩ := hO
  refine ⟨_, rfl, rfl, rfl, ⟨Nat.le_refl _, ⟨rfl, rfl⟩, fun b hb hs => ⟨rfl, rfl, ?_, rfl, rfl, rfl, rfl⟩⟩, ⟨h1, h2, h3, h4, ?_⟩, hl⟩
  · funext i; exact fi_na hs
  · funext i
    by_cases hi : i = j
    · rw [hi, va_eq]; exact fi_eq _ _ _ _
    · rw [va_ne hi, fi_nk hi]
      exact congrFun h5 i
/-- a new object -/
theorem mk_O {M : MM} {k a : Nat} (hn : nx M = a) (hl : lnZ M) : ∃ N, xO M k = N ∧ nx N = a + 1 ∧ sl N = sl M + clN k ∧ Gf (fun _ => False) M N ∧ isO N a k (fun _ => none) (fun _ => 0) ∧ lnZ N := by
  subst hn
  refine ⟨_, rfl, rfl, rfl, xO_G, ⟨Nat.lt_succ_self _, va_eq, hl _ (Nat.le_refl _), va_eq, va_eq⟩, fun b hb => ?_⟩
  have hb : nx M + 1 ≤ b := hb
  exact hl b (by omega)
theorem mk_R {M : MM} {o j c a : Nat} {f : Nat → Option Nat} {u : Nat → Int32} (hO : isO M o c f u) (hl : lnZ M) : ∃ N, setR M o j (some a) = N ∧ nx N = nx M ∧ sl N = sl M ∧ Gf (fun b => b = o) M N ∧ isO N o c (va_up f j (some a)) u ∧ lnZ N := by
  obtain ⟨h1, h2, h3, h4, h5⟩ := hO
  refine ⟨_, rfl, rfl, rfl, Gf.R rfl, ⟨h1, h2, h3, ?_, h5⟩, hl⟩
  funext i
  by_cases hi : i = j
  · rw [hi, va_eq]; exact fr_eq _ _ _ _
  · rw [va_ne hi, fr_nk hi]
    exact congrFun h4 i
/-- rows of ints, put into a field -/
def isR (N : MM) (b m n : Nat) : Prop := b + m < nx N ∧ sh N b = 23 ∧ ln N b = m ∧ (∀ i, i < m → aq N b i = some (b + 1 + i)) ∧ ∀ i, i < m → isA N (b + 1 + i) 20 n
theorem isR.t {S : Nat → Prop} {M N : MM} {b m n : Nat} (h : isR M b m n) (g : Gf S M N) (hs : ∀ i, i ≤ m → ¬ S (b + i)) : isR N b m n := by
  obtain ⟨h1, h2, h3, h4, h5⟩ := h
  obtain ⟨e1, e2, e3, e4, e5, e6, e7⟩ := g.2.2 b (by omega) (hs 0 (Nat.zero_le _))
  refine ⟨Nat.lt_of_lt_of_le h1 g.1, e1.trans h2, e2.trans h3, fun i hi => by rw [e7]; exact h4 i hi, fun i hi => (h5 i hi).t g ?_⟩
  have := hs (1 + i) (by omega)
  rwa [← Nat.add_assoc] at this
theorem mk_W {M : MM} {o j m n a c : Nat} {f : Nat → Option Nat} {u : Nat → Int32} (hO : isO M o c f u) (hn : nx M = a) (ha : a + m < 900000) (hl : lnZ M) : ∃ Q N, xR M m n = Q ∧ cl Q o = c ∧ setR Q o j (some a) = N ∧ nx N = a + (1 + m) ∧ sl N = sl M + (m + m * n) ∧ Gf (fun b => b = o) M N ∧ isO N o c (va_up f j (some a)) u ∧ isR N a m n ∧ lnZ N := by
  obtain ⟨h1, h2, h3, h4, h5⟩ := hO
  have hoa : ¬ o = nx M := by omega
  have hob : ¬ (nx M < o ∧ o ≤ nx M + m) := by omega
  have c0 : cl (xR M m n) o = c := by
    rw [cl_xR _ _ _ _ (by omega), if_neg hoa, if_neg hob]
    unfold cl
    rw [if_pos ⟨h1, by omega⟩]; exact h2
  refine ⟨_, _, rfl, c0, rfl, ?_, rfl, ?_, ?_, ?_, ?_⟩
  · show nx M + (1 + m) = a + (1 + m); omega
  · refine ⟨Nat.le_add_right _ _, ⟨rfl, rfl⟩, fun b hb hs => ⟨?_, ?_, rfl, by funext i; exact fr_na (M := xR M m n) hs, ?_, rfl, va_ne (by omega)⟩⟩
    · exact (if_neg (by omega)).trans (if_neg (by omega))
    · exact (if_neg (by omega)).trans (if_neg (by omega))
    · exact if_neg (by omega)
  · refine ⟨Nat.lt_of_lt_of_le h1 (Nat.le_add_right _ _), ((if_neg hoa).trans (if_neg hob)).trans h2, ((if_neg hoa).trans (if_neg hob)).trans h3, ?_, h5⟩
    funext i
    by_cases hi : i = j
    · rw [hi, va_eq]; exact fr_eq _ _ _ _
    · rw [va_ne hi, fr_nk hi]
      exact congrFun h4 i
  · subst hn
    refine ⟨?_, if_pos rfl, if_pos rfl, fun i hi => ?_, fun i hi => ⟨?_, ?_, ?_, ?_⟩⟩
    · show nx M + m < nx M + (1 + m); omega
    · show (va_up (aq M) (nx M) (fun i => if i < m then some (nx M + 1 + i) else none)) (nx M) i = _
      rw [va_eq]
      exact if_pos hi
    · show nx M + 1 + i < nx M + (1 + m); omega
    · exact (if_neg (by omega)).trans (if_pos (by omega))
    · exact (if_neg (by omega)).trans (if_pos (by omega))
    · exact if_pos (by omega)
  · intro b hb
    have hb : nx M + (1 + m) ≤ b := hb
    exact ((if_neg (by omega)).trans (if_neg (by omega))).trans (hl b (by omega))
