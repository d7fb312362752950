/-! ===== the best row, set by set (no machine) ===== -/
theorem fold_congr {α : Type} {f g : α → Nat → α} : ∀ (n : Nat) (a : α), (∀ acc p, p < n → f acc p = g acc p) → (List.range n).foldl f a = (List.range n).foldl g a := by
  intro n
  induction n with
  | zero => intro a _; rfl
  | succ n ih =>
    intro a h
    rw [List.range_succ, List.foldl_append, List.foldl_append, ih a (fun acc p hp => h acc p (by omega))]
    exact h _ n (by omega)
theorem fold_idx {α : Type} (b : Nat) (G : Nat → α → α) (a : α) : ∀ n, (List.range n).foldl (fun acc p => if b.testBit p = true then G (cnt p (fun q => b.testBit q = true)) acc else acc) a = (List.range (cnt n (fun q => b.testBit q = true))).foldl (fun acc i => G i acc) a := by
  intro n
  induction n with
  | zero => rfl
  | succ n ih =>
    rw [List.range_succ, List.foldl_append, ih]
    show (if b.testBit n = true then _ else _) = _
    by_cases h : b.testBit n = true
    · rw [if_pos h, cnt_t (P := fun q => b.testBit q = true) h, List.range_succ, List.foldl_append]
      rfl
    · rw [if_neg h, cnt_f (P := fun q => b.testBit q = true) h]
theorem cnt_idx (b : Nat) (R : Nat → Prop) : ∀ n, cnt n (fun q => b.testBit q = true ∧ R (cnt q (fun q => b.testBit q = true))) = cnt (cnt n (fun q => b.testBit q = true)) R := by
  intro n
  induction n with
  | zero => rfl
  | succ n ih =>
    by_cases h : b.testBit n = true
    · rw [cnt_t (P := fun q => b.testBit q = true) h]
      by_cases hr : R (cnt n (fun q => b.testBit q = true))
      · rw [cnt_t (P := fun q => b.testBit q = true ∧ R (cnt q (fun q => b.testBit q = true))) ⟨h, hr⟩, cnt_t hr, ih]
      · rw [cnt_f (P := fun q => b.testBit q = true ∧ R (cnt q (fun q => b.testBit q = true))) (fun z => hr z.2), cnt_f hr, ih]
    · rw [cnt_f (P := fun q => b.testBit q = true) h, cnt_f (P := fun q => b.testBit q = true ∧ R (cnt q (fun q => b.testBit q = true))) (fun z => h z.1), ih]
noncomputable def idx (b p : Nat) : Nat := cnt p (fun q => b.testBit q = true)
noncomputable def mem (b n i : Nat) : Nat := nthI (fun q => b.testBit q = true) n i
noncomputable def cB (b n : Nat) : Nat := cnt n (fun q => b.testBit q = true)
theorem mem_s {b n i : Nat} (h : i < cB b n) : mem b n i < n ∧ b.testBit (mem b n i) = true ∧ idx b (mem b n i) = i := nthI_s (P := fun q => b.testBit q = true) h
theorem idx_s {b n p : Nat} (hp : p < n) (hb : b.testBit p = true) : idx b p < cB b n ∧ mem b n (idx b p) = p := by
  have h1 : idx b p < cB b n := by
    unfold cB idx
    have := cnt_mono (P := fun q => b.testBit q = true) (show p + 1 ≤ n by omega)
    rw [cnt_t (P := fun q => b.testBit q = true) hb] at this
    omega
  exact ⟨h1, nth_uniq (nthI_s (P := fun q => b.testBit q = true) h1) ⟨hp, hb, rfl⟩⟩
noncomputable def vis (b n S : Nat) : Nat := bts n (fun p => b.testBit p = true ∧ S.testBit (idx b p) = true)
noncomputable def lfS (b n S : Nat) : Nat := bts n (fun p => b.testBit p = true ∧ ¬ S.testBit (idx b p) = true)
theorem lfS_del {b n S p : Nat} (hp : p < n) (hb : b.testBit p = true) : ndf (lfS b n S) (2 ^ p) = lfS b n (S ||| 2 ^ idx b p) := by
  unfold lfS
  rw [bts_del]
  refine bts_congr (fun q hq => ?_)
  rw [or_bit]
  constructor
  · rintro ⟨⟨h1, h2⟩, h3⟩
    refine ⟨h1, fun z => z.elim h2 (fun z => h3 ?_)⟩
    rw [← (idx_s hq h1).2, ← z, (idx_s hp hb).2]
  · rintro ⟨h1, h2⟩
    exact ⟨⟨h1, fun z => h2 (Or.inl z)⟩, fun z => h2 (Or.inr (by rw [z]))⟩
theorem vis_put {b n S p : Nat} (hp : p < n) (hb : b.testBit p = true) : vis b n S ||| 2 ^ p = vis b n (S ||| 2 ^ idx b p) := by
  unfold vis
  rw [bts_put hp]
  refine bts_congr (fun q hq => ?_)
  rw [or_bit]
  constructor
  · rintro (⟨h1, h2⟩ | rfl)
    · exact ⟨h1, Or.inl h2⟩
    · exact ⟨hb, Or.inr rfl⟩
  · rintro ⟨h1, h2⟩
    rcases h2 with z | z
    · exact Or.inl ⟨h1, z⟩
    · right
      rw [← (idx_s hq h1).2, ← z, (idx_s hp hb).2]
def mn99 (x : Nat) : Nat := if 99 < x then 99 else x
noncomputable def knX (pv : Nat → Nat → Nat) (n : Nat) (r0 : Nat → Int32) (t0 tr k X p : Nat) : Nat → Int32
  | 0 => nI (pv p 2)
  | 1 => nI (pv p 1)
  | 2 => nI (cnt 16 (fun i => (pv p 3).testBit i = true))
  | 3 => nI (pv p 0)
  | 4 => nI (mn99 (t0 + k * tr))
  | 5 => r0 80 + nI k
  | 6 => sumW n (fun q => pv q 4 = pv p 4) (fun q => r0 (48 + q)) + nI (cnt n (fun q => X.testBit q = true ∧ pv q 4 = pv p 4))
  | _ => r0 (16 + p)
/-- a row behind some looks, by their set alone -/
def RF (r0 r : Nat → Int32) (t0 tr k X : Nat) : Prop := r 81 = nI (mn99 (t0 + k * tr)) ∧ r 80 = r0 80 + nI k ∧ (∀ q, q < 16 → r (48 + q) = r0 (48 + q) + bI (X.testBit q = true)) ∧ (∀ q, q < 16 → r (16 + q) = r0 (16 + q))
theorem RF_0 {r0 : Nat → Int32} {t0 tr : Nat} (h : r0 81 = nI t0) (ht : t0 < 100) : RF r0 r0 t0 tr 0 0 := by
  refine ⟨?_, ?_, fun q _ => ?_, fun _ _ => rfl⟩
  · rw [h, Nat.zero_mul, Nat.add_zero]; unfold mn99; rw [if_neg (by omega)]
  · rw [nI_a0]
  · rw [bI_f (by rw [Nat.zero_testBit]; decide), nI_a0]
theorem RF_S {r0 r th : Nat → Int32} {t0 tr k X p : Nat} {x : Int32} (h : RF r0 r t0 tr k X) (ht : t0 < 100) (htr : tr < 10) (hk : k < 100) (hp : p < 16) (hX : ¬ X.testBit p = true) : RF r0 (lookR (nI tr) x p r) t0 tr (k + 1) (X ||| 2 ^ p) := by
  obtain ⟨h1, h2, h3, h4⟩ := h
  refine ⟨?_, ?_, fun q hq => ?_, fun q hq => ?_⟩
  · rw [look_81, h1, nI_add]
    have hm : mn99 (t0 + k * tr) ≤ 99 := by unfold mn99; split <;> omega
    have e : mn99 (t0 + (k + 1) * tr) = if 99 < mn99 (t0 + k * tr) + tr then 99 else mn99 (t0 + k * tr) + tr := by
      rw [Nat.succ_mul]
      unfold mn99
      split <;> split <;> (try split) <;> omega
    rw [e]
    by_cases hc : 99 < mn99 (t0 + k * tr) + tr
    · rw [if_pos hc, if_pos ((nI_ltI (by decide) (by omega)).mpr hc)]
    · rw [if_neg hc, if_neg (fun z => hc ((nI_ltI (by decide) (by omega)).mp z))]
  · rw [look_80, h2, Int32.add_assoc, nI_add]
  · by_cases e : q = p
    · subst e
      rw [look_48 hp, h3 q hq, bI_f hX, nI_a0, bI_t (or_bit.mpr (Or.inr rfl))]
    · rw [look_o (by omega) (by omega) (by omega) (by omega), h3 q hq]
      congr 2
      exact propext (by rw [or_bit]; exact ⟨fun z => Or.inl z, fun z => z.elim id (fun z => absurd z.symm e)⟩)
  · rw [look_o (by omega) (by omega) (by omega) (by omega)]; exact h4 q hq
theorem sumW_bI {n : Nat} {P Q : Nat → Prop} {f g : Nat → Int32} (h : ∀ q, q < n → g q = f q + bI (Q q)) : sumW n P g = sumW n P f + nI (cnt n (fun q => Q q ∧ P q)) := by
  induction n with
  | zero => rw [cnt_0, nI_a0]; rfl
  | succ n ih =>
    have h1 := ih (fun q hq => h q (by omega))
    by_cases hp : P n
    · rw [sumW_t hp, sumW_t hp, h1, h n (by omega)]
      by_cases hq : Q n
      · rw [cnt_t (P := fun q => Q q ∧ P q) ⟨hq, hp⟩, bI_t hq, ← nI_add]
        rw [Int32.add_assoc, Int32.add_assoc, ← Int32.add_assoc (nI _) (f n), Int32.add_comm (nI _) (f n), Int32.add_assoc (f n)]
      · rw [cnt_f (P := fun q => Q q ∧ P q) (fun z => hq z.1), bI_f hq, nI_a0]
        rw [Int32.add_assoc, Int32.add_assoc, Int32.add_comm (nI _) (f n)]
    · rw [sumW_f hp, sumW_f hp, h1, cnt_f (P := fun q => Q q ∧ P q) (fun z => hp z.2)]
theorem RF_kn {pv : Nat → Nat → Nat} {n : Nat} {r0 r : Nat → Int32} {t0 tr k X p : Nat} (h : RF r0 r t0 tr k X) (h16 : n ≤ 16) (hp : p < 16) : ∀ i, i < 8 → knF pv n r p i = knX pv n r0 t0 tr k X p i := by
  obtain ⟨h1, h2, h3, h4⟩ := h
  intro i hi
  have h8 : i = 0 ∨ i = 1 ∨ i = 2 ∨ i = 3 ∨ i = 4 ∨ i = 5 ∨ i = 6 ∨ i = 7 := by omega
  rcases h8 with rfl | rfl | rfl | rfl | rfl | rfl | rfl | rfl
  · rfl
  · rfl
  · rfl
  · rfl
  · exact h1
  · exact h2
  · exact sumW_bI (fun q hq => h3 q (by omega))
  · exact h4 p hp
noncomputable def lamX (pv : Nat → Nat → Nat) (n : Nat) (tk : Nat → Nat × Nat) (m : Nat) (r0 : Nat → Int32) (t0 tr k X p : Nat) : Nat := pv p 2 - thN (knX pv n r0 t0 tr k X p) tk m
theorem RF_loss {pv : Nat → Nat → Nat} {n m : Nat} {tk : Nat → Nat × Nat} {r0 r : Nat → Int32} {t0 tr k X p : Nat} (hL : LOK tk m) (h : RF r0 r t0 tr k X) (h16 : n ≤ 16) (hp : p < 16) : lossN pv n tk m r p = lamX pv n tk m r0 t0 tr k X p := by
  unfold lossN lamX thN
  rw [thk_kn hL (RF_kn h h16 hp)]
/-- what is left to lose from a set on, and by which row -/
noncomputable def opW (c : Nat) (lam : Nat → Nat → Nat) (me : Nat → Nat) : Nat → Nat → Nat × List Nat
  | 0, _ => (0, [])
  | f + 1, S => ((List.range c).foldl (fun acc i => if S.testBit i = true then acc else obU (lam S i + (opW c lam me f (S ||| 2 ^ i)).1) (me i :: (opW c lam me f (S ||| 2 ^ i)).2) acc) none).getD (0, [])
def shM (K : Nat) (pre : List Nat) (o : OB) (B : OB) : OB := match o with
  | none => B
  | some (a, l) => obU (K + a) (pre ++ l) B
theorem shM_S {K : Nat} {pre l : List Nat} {a : Nat} {o B : OB} : obU (K + a) (pre ++ l) (shM K pre o B) = shM K pre (obU a l o) B := by
  cases o with
  | none => rfl
  | some q =>
    obtain ⟨a0, l0⟩ := q
    cases B with
    | none =>
      show (if K + a < K + a0 then some (K + a, pre ++ l) else some (K + a0, pre ++ l0)) = shM K pre (if a < a0 then some (a, l) else some (a0, l0)) none
      by_cases h : a < a0
      · rw [if_pos h, if_pos (by omega)]; rfl
      · rw [if_neg h, if_neg (by omega)]; rfl
    | some w =>
      obtain ⟨b, lb⟩ := w
      show obU (K + a) (pre ++ l) (if K + a0 < b then some (K + a0, pre ++ l0) else some (b, lb)) = shM K pre (if a < a0 then some (a, l) else some (a0, l0)) (some (b, lb))
      by_cases h : a < a0
      · rw [if_pos h]
        show _ = if K + a < b then some (K + a, pre ++ l) else some (b, lb)
        by_cases h2 : K + a0 < b
        · rw [if_pos h2, if_pos (show K + a < b by omega)]
          show (if K + a < K + a0 then _ else _) = _
          rw [if_pos (by omega)]
        · rw [if_neg h2]; rfl
      · rw [if_neg h]
        show _ = if K + a0 < b then some (K + a0, pre ++ l0) else some (b, lb)
        by_cases h2 : K + a0 < b
        · rw [if_pos h2]
          show (if K + a < K + a0 then _ else _) = _
          rw [if_neg (by omega)]
        · rw [if_neg h2]
          show (if K + a < b then _ else _) = _
          rw [if_neg (by omega)]
theorem fold_sh {c K : Nat} {pre : List Nat} {S : Nat} {A : Nat → Nat} {Lq : Nat → List Nat} {B : OB} : ∀ n, (List.range n).foldl (fun acc i => if S.testBit i = true then acc else obU (K + A i) (pre ++ Lq i) acc) B = shM K pre ((List.range n).foldl (fun acc i => if S.testBit i = true then acc else obU (A i) (Lq i) acc) none) B := by
  intro n
  induction n with
  | zero => rfl
  | succ n ih =>
    rw [List.range_succ, List.foldl_append, List.foldl_append, ih]
    show (if S.testBit n = true then _ else obU _ _ _) = shM K pre (if S.testBit n = true then _ else obU _ _ _) B
    by_cases h : S.testBit n = true
    · rw [if_pos h, if_pos h]
    · rw [if_neg h, if_neg h, shM_S]
theorem fold_some {S : Nat} {A : Nat → Nat} {Lq : Nat → List Nat} : ∀ n, (∃ i, i < n ∧ ¬ S.testBit i = true) → ∃ q, (List.range n).foldl (fun acc i => if S.testBit i = true then acc else obU (A i) (Lq i) acc) none = some q := by
  intro n
  induction n with
  | zero => rintro ⟨i, hi, -⟩; omega
  | succ n ih =>
    rintro ⟨i, hi, hS⟩
    rw [List.range_succ, List.foldl_append]
    show ∃ q, (if S.testBit n = true then _ else obU _ _ _) = some q
    by_cases h : S.testBit n = true
    · rw [if_pos h]
      exact ih ⟨i, by
        by_cases e : i = n
        · exact absurd (e ▸ h) hS
        · omega, hS⟩
    · rw [if_neg h]
      cases ((List.range n).foldl (fun acc i => if S.testBit i = true then acc else obU (A i) (Lq i) acc) none) with
      | none => exact ⟨_, rfl⟩
      | some w =>
        obtain ⟨b, lb⟩ := w
        show ∃ q, (if A n < b then some (A n, Lq n) else some (b, lb)) = some q
        split
        · exact ⟨_, rfl⟩
        · exact ⟨_, rfl⟩
/-- how many of a set's members are in an index set -/
noncomputable def pcS (c S : Nat) : Nat := cnt c (fun i => S.testBit i = true)
noncomputable def lamS (pv : Nat → Nat → Nat) (n : Nat) (tk : Nat → Nat × Nat) (m : Nat) (r0 : Nat → Int32) (t0 tr b : Nat) (S i : Nat) : Nat := lamX pv n tk m r0 t0 tr (pcS (cB b n) S) (vis b n S) (mem b n i)
theorem pcS_put {c S i : Nat} (hi : i < c) (h : ¬ S.testBit i = true) : pcS c (S ||| 2 ^ i) = pcS c S + 1 := by
  unfold pcS
  rw [cnt_congr (Q := fun x => S.testBit x = true ∨ x = i) (fun j _ => by rw [or_bit]; exact ⟨fun y => y.elim Or.inl (fun y => Or.inr y.symm), fun y => y.elim Or.inl (fun y => Or.inr y.symm)⟩)]
  exact cnt_add1 (W := fun x => S.testBit x = true) hi h
theorem prF_op {pv : Nat → Nat → Nat} {n m : Nat} {tk : Nat → Nat × Nat} {r0 : Nat → Int32} {t0 tr b : Nat} (hL : LOK tk m) (h16 : n ≤ 16) (ht : t0 < 100) (htr : tr < 10) : ∀ (f S : Nat) (pre : List Nat) (B : OB), pcS (cB b n) S + f = cB b n → RF r0 (rowL (nI tr) pv n tk m r0 pre) t0 tr (pcS (cB b n) S) (vis b n S) → prF n (lostL (nI tr) pv n tk m r0) f (lfS b n S) pre B = obU (lostL (nI tr) pv n tk m r0 pre + (opW (cB b n) (lamS pv n tk m r0 t0 tr b) (mem b n) f S).1) (pre ++ (opW (cB b n) (lamS pv n tk m r0 t0 tr b) (mem b n) f S).2) B := by
  have hcn : cB b n ≤ 16 := Nat.le_trans (cnt_le _ _) h16
  intro f
  induction f with
  | zero =>
    intro S pre B _ _
    show obU (lostL (nI tr) pv n tk m r0 pre) pre B = obU (_ + 0) (pre ++ []) B
    rw [Nat.add_zero, List.append_nil]
  | succ f ih =>
    intro S pre B hf hR
    have hst : ∀ p, p < n → b.testBit p = true → ¬ S.testBit (idx b p) = true → ∀ acc, prF n (lostL (nI tr) pv n tk m r0) f (ndf (lfS b n S) (2 ^ p)) (pre ++ [p]) acc = obU (lostL (nI tr) pv n tk m r0 pre + (lamS pv n tk m r0 t0 tr b S (idx b p) + (opW (cB b n) (lamS pv n tk m r0 t0 tr b) (mem b n) f (S ||| 2 ^ idx b p)).1)) (pre ++ mem b n (idx b p) :: (opW (cB b n) (lamS pv n tk m r0 t0 tr b) (mem b n) f (S ||| 2 ^ idx b p)).2) acc := by
      intro p hp hb hS acc
      obtain ⟨i1, i2⟩ := idx_s hp hb
      have hv : ¬ (vis b n S).testBit p = true := fun z => hS (bts_bit.mp z).2.2
      have hpc := pcS_put (c := cB b n) i1 hS
      have hR2 : RF r0 (rowL (nI tr) pv n tk m r0 (pre ++ [p])) t0 tr (pcS (cB b n) (S ||| 2 ^ idx b p)) (vis b n (S ||| 2 ^ idx b p)) := by
        rw [row_app, hpc, ← vis_put hp hb]
        exact RF_S (th := r0) hR ht htr (by omega) (by omega) hv
      rw [lfS_del hp hb, ih (S ||| 2 ^ idx b p) (pre ++ [p]) acc (by omega) hR2, lost_app, RF_loss hL hR h16 (by omega), i2]
      unfold lamS
      rw [i2, Nat.add_assoc, List.append_assoc]
      rfl
    show (List.range n).foldl (fun acc p => if (lfS b n S).testBit p = true then prF n (lostL (nI tr) pv n tk m r0) f (ndf (lfS b n S) (2 ^ p)) (pre ++ [p]) acc else acc) B = _
    have e1 := fold_congr (f := fun acc p => if (lfS b n S).testBit p = true then prF n (lostL (nI tr) pv n tk m r0) f (ndf (lfS b n S) (2 ^ p)) (pre ++ [p]) acc else acc) (g := fun acc p => if b.testBit p = true then (fun i acc => if S.testBit i = true then acc else obU (lostL (nI tr) pv n tk m r0 pre + (lamS pv n tk m r0 t0 tr b S i + (opW (cB b n) (lamS pv n tk m r0 t0 tr b) (mem b n) f (S ||| 2 ^ i)).1)) (pre ++ mem b n i :: (opW (cB b n) (lamS pv n tk m r0 t0 tr b) (mem b n) f (S ||| 2 ^ i)).2) acc) (cnt p (fun q => b.testBit q = true)) acc else acc) n B (fun acc p hp => by
      show (if (lfS b n S).testBit p = true then _ else _) = if b.testBit p = true then (if S.testBit (idx b p) = true then _ else _) else _
      by_cases hb : b.testBit p = true
      · rw [if_pos hb]
        by_cases hS : S.testBit (idx b p) = true
        · rw [if_pos hS, if_neg (fun z => (bts_bit.mp z).2.2 hS)]
        · rw [if_neg hS, if_pos (show (lfS b n S).testBit p = true from bts_bit.mpr ⟨hp, hb, hS⟩)]
          exact hst p hp hb hS acc
      · rw [if_neg hb, if_neg (fun z => hb (bts_bit.mp z).2.1)])
    rw [e1, fold_idx b (fun i acc => if S.testBit i = true then acc else obU (lostL (nI tr) pv n tk m r0 pre + (lamS pv n tk m r0 t0 tr b S i + (opW (cB b n) (lamS pv n tk m r0 t0 tr b) (mem b n) f (S ||| 2 ^ i)).1)) (pre ++ mem b n i :: (opW (cB b n) (lamS pv n tk m r0 t0 tr b) (mem b n) f (S ||| 2 ^ i)).2) acc) B n]
    have e2 := fold_sh (c := 0) (K := lostL (nI tr) pv n tk m r0 pre) (pre := pre) (S := S) (A := fun i => lamS pv n tk m r0 t0 tr b S i + (opW (cB b n) (lamS pv n tk m r0 t0 tr b) (mem b n) f (S ||| 2 ^ i)).1) (Lq := fun i => mem b n i :: (opW (cB b n) (lamS pv n tk m r0 t0 tr b) (mem b n) f (S ||| 2 ^ i)).2) (B := B) (cB b n)
    have e3 : ∃ i, i < cB b n ∧ ¬ S.testBit i = true := Classical.not_not.mp (fun z => by
      have : pcS (cB b n) S = cB b n := by
        unfold pcS
        have : ∀ k, k ≤ cB b n → cnt k (fun i => S.testBit i = true) = k := by
          intro k
          induction k with
          | zero => intro _; rfl
          | succ k ihk => intro hk; rw [cnt_t (P := fun i => S.testBit i = true) (Classical.not_not.mp (fun y => z ⟨k, by omega, y⟩)), ihk (by omega)]
        exact this _ (Nat.le_refl _)
      omega)
    obtain ⟨⟨qa, ql⟩, hq⟩ := fold_some (S := S) (A := fun i => lamS pv n tk m r0 t0 tr b S i + (opW (cB b n) (lamS pv n tk m r0 t0 tr b) (mem b n) f (S ||| 2 ^ i)).1) (Lq := fun i => mem b n i :: (opW (cB b n) (lamS pv n tk m r0 t0 tr b) (mem b n) f (S ||| 2 ^ i)).2) (cB b n) e3
    have e4 : opW (cB b n) (lamS pv n tk m r0 t0 tr b) (mem b n) (f + 1) S = (qa, ql) := by
      show (List.foldl _ _ _ : OB).getD (0, []) = _
      rw [hq]; rfl
    rw [e4]
    refine Eq.trans e2 ?_
    rw [hq]
    rfl
theorem prB_op {M : MM} {pv : Nat → Nat → Nat} {n m : Nat} {tk : Nat → Nat × Nat} {t0 tr b : Nat} (hL : LOK tk m) (h16 : n ≤ 16) (hb : b < 2 ^ n) (ht : t0 < 100) (htr : tr < 10) (h57 : ai M 57 2 = nI tr) (h81 : ai M 521 81 = nI t0) : prB M pv n tk m b = some (opW (cB b n) (lamS pv n tk m (ai M 521) t0 tr b) (mem b n) (cB b n) 0) := by
  unfold prB
  rw [h57]
  have e1 : cnt 16 (fun i => b.testBit i = true) = cB b n := by
    have := pop_bts (n := n) (P := fun i => b.testBit i = true) h16
    rw [bts_self hb] at this
    exact this
  have e2 : lfS b n 0 = b := by
    unfold lfS
    rw [bts_congr (Q := fun p => b.testBit p = true) (fun p _ => ⟨fun z => z.1, fun z => ⟨z, by rw [Nat.zero_testBit]; decide⟩⟩), bts_self hb]
  have e3 : pcS (cB b n) 0 = 0 := cnt_none (fun i _ z => by rw [Nat.zero_testBit] at z; cases z)
  have e4 : vis b n 0 = 0 := by
    unfold vis
    apply Nat.eq_of_testBit_eq
    intro i
    rw [Nat.zero_testBit, Bool.eq_false_iff]
    intro z
    have := (bts_bit.mp z).2.2
    rw [Nat.zero_testBit] at this; cases this
  have h := prF_op (pv := pv) (n := n) (r0 := ai M 521) (t0 := t0) (tr := tr) (b := b) hL h16 ht htr (cB b n) 0 [] none (by omega) (by rw [e3, e4]; exact RF_0 h81 ht)
  rw [e2] at h
  rw [e1, h]
  show some (0 + _, [] ++ _) = _
  rw [Nat.zero_add, List.nil_append]
