/-! ===== all rows, in the reference ===== -/
def orM (M : MM) (r f g rn rb : Nat → Int32) (ll : Int32) : MM := setI (setA (setA (setA (setA (setA M 439 f) 438 g) 522 r) 545 rn) 546 rb) 53 44 ll
theorem or_cl (M : MM) (r f g rn rb : Nat → Int32) (ll : Int32) : cl (orM M r f g rn rb ll) = cl M := by
  unfold orM
  rw [cl_setI, cl_setA, cl_setA, cl_setA, cl_setA, cl_setA]
theorem or_ln (M : MM) (r f g rn rb : Nat → Int32) (ll : Int32) : ln (orM M r f g rn rb ll) = ln M := by
  unfold orM
  rw [ln_setI, ln_setA, ln_setA, ln_setA, ln_setA, ln_setA]
theorem or_fr (M : MM) (r f g rn rb : Nat → Int32) (ll : Int32) : fr (orM M r f g rn rb ll) = fr M := by
  unfold orM
  rw [fr_setI, fr_setA, fr_setA, fr_setA, fr_setA, fr_setA]
theorem or_aq (M : MM) (r f g rn rb : Nat → Int32) (ll : Int32) : aq (orM M r f g rn rb ll) = aq M := by
  unfold orM
  rw [aq_setI, aq_setA, aq_setA, aq_setA, aq_setA, aq_setA]
theorem or_S (M : MM) (r f g rn rb : Nat → Int32) (ll : Int32) : SH (orM M r f g rn rb ll) = SH M := by
  unfold orM
  rw [SH_setI, SH_setA, SH_setA, SH_setA, SH_setA, SH_setA]
theorem or_ai {M : MM} {r f g rn rb : Nat → Int32} {ll : Int32} {x : Nat} (h1 : ¬ x = 522) (h2 : ¬ x = 438) (h3 : ¬ x = 439) (h4 : ¬ x = 545) (h5 : ¬ x = 546) : ai (orM M r f g rn rb ll) x = ai M x := by
  unfold orM
  rw [ai_setI, ai_ne h5, ai_ne h4, ai_ne h1, ai_ne h2, ai_ne h3]
theorem or_rn (M : MM) (r f g rn rb : Nat → Int32) (ll : Int32) : ai (orM M r f g rn rb ll) 545 = rn := by
  unfold orM
  rw [ai_setI, ai_ne (by decide), ai_eq]
theorem or_rb (M : MM) (r f g rn rb : Nat → Int32) (ll : Int32) : ai (orM M r f g rn rb ll) 546 = rb := by
  unfold orM
  rw [ai_setI, ai_eq]
theorem or_ll (M : MM) (r f g rn rb : Nat → Int32) (ll : Int32) : fi (orM M r f g rn rb ll) 53 44 = ll := by
  unfold orM
  rw [fi_eq]
theorem or_17 (M : MM) (r f g rn rb : Nat → Int32) (ll : Int32) : fi (orM M r f g rn rb ll) 53 17 = fi M 53 17 := by
  unfold orM
  rw [fi_nk (by decide), fi_setA, fi_setA, fi_setA, fi_setA, fi_setA]
theorem or_44 (M : MM) (r f g rn rb : Nat → Int32) (ll x : Int32) : setI (orM M r f g rn rb ll) 53 44 x = orM M r f g rn rb x := by
  unfold orM
  rw [setI_setI]
theorem or_545 (M : MM) (r f g rn rb x : Nat → Int32) (ll : Int32) : setA (orM M r f g rn rb ll) 545 x = orM M r f g x rb ll := by
  unfold orM
  rw [← setI_setA, setA_comm (a := 546) (b := 545) (by decide), setA_setA]
theorem or_546 (M : MM) (r f g rn rb x : Nat → Int32) (ll : Int32) : setA (orM M r f g rn rb ll) 546 x = orM M r f g rn x ll := by
  unfold orM
  rw [← setI_setA, setA_setA]
theorem or_sm (M : MM) (r f g rn rb r2 f2 g2 : Nat → Int32) (ll : Int32) : smM (orM M r f g rn rb ll) r2 (fi (orM M r f g rn rb ll) 53 45) (fi (orM M r f g rn rb ll) 53 46) f2 g2 = orM M r2 f2 g2 rn rb ll := by
  unfold smM
  rw [setI_self, setI_self]
  unfold orM
  rw [← setI_setA, ← setI_setA, ← setI_setA]
  congr 1
  rw [setA_comm (a := 546) (b := 439) (by decide), setA_comm (a := 545) (b := 439) (by decide), setA_comm (a := 522) (b := 439) (by decide), setA_comm (a := 438) (b := 439) (by decide), setA_setA]
  rw [setA_comm (a := 546) (b := 438) (by decide), setA_comm (a := 545) (b := 438) (by decide), setA_comm (a := 522) (b := 438) (by decide), setA_setA]
  rw [setA_comm (a := 546) (b := 522) (by decide), setA_comm (a := 545) (b := 522) (by decide), setA_setA]
abbrev OB : Type := Option (Nat × List Nat)
def obU (L : Nat) (l : List Nat) (B : OB) : OB := match B with
  | none => some (L, l)
  | some (L0, l0) => if L < L0 then some (L, l) else some (L0, l0)
/-- all rows of those left, behind a row -/
noncomputable def prF (n : Nat) (ls : List Nat → Nat) : Nat → Nat → List Nat → OB → OB
  | 0, _, pre, B => obU (ls pre) pre B
  | f + 1, left, pre, B => (List.range n).foldl (fun acc p => if left.testBit p = true then prF n ls f (ndf left (2 ^ p)) (pre ++ [p]) acc else acc) B
def obOK (B : OB) (ll : Int32) (rb : Nat → Int32) : Prop := match B with
  | none => ll = -1
  | some (L, l) => ll = nI L ∧ L ≤ 240 ∧ l.length ≤ 6 ∧ ∀ k, k < l.length → rb k = nI (l.getD k 0)
theorem pop_ndf {b p : Nat} (hp : p < 16) (h : b.testBit p = true) : cnt 16 (fun i => b.testBit i = true) = cnt 16 (fun i => (ndf b (2 ^ p)).testBit i = true) + 1 := by
  have h1 := cnt_split 16 (fun i => b.testBit i = true) (fun i => i = p)
  have h2 : cnt 16 (fun i => b.testBit i = true ∧ i = p) = 1 := by
    have : ∀ n, p < n → cnt n (fun i => b.testBit i = true ∧ i = p) = 1 := by
      intro n
      induction n with
      | zero => intro h; omega
      | succ n ih =>
        intro hn
        by_cases e : n = p
        · subst e
          rw [cnt_t (P := fun i => b.testBit i = true ∧ i = n) ⟨h, rfl⟩, cnt_none (fun i hi z => by omega)]
        · rw [cnt_f (P := fun i => b.testBit i = true ∧ i = p) (fun z => e z.2)]; exact ih (by omega)
    exact this 16 hp
  have h3 : cnt 16 (fun i => b.testBit i = true ∧ ¬ i = p) = cnt 16 (fun i => (ndf b (2 ^ p)).testBit i = true) := cnt_congr (fun i _ => by
    rw [ndf_bit, Nat.testBit_two_pow]
    by_cases e : p = i
    · simp [e]
    · simp [e, Ne.symm e])
  omega
theorem ndf_lt {a b n : Nat} (h : a < 2 ^ n) : ndf a b < 2 ^ n := Nat.xor_lt_two_pow h (Nat.lt_of_le_of_lt Nat.and_le_left h)
