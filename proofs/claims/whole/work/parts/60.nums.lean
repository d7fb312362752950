/-! ===== numbers ===== -/
theorem nI_eq0 {a : Nat} (h : a < 2 ^ 31) : nI a = 0 ↔ a = 0 := nI_eq (b := 0) h (by decide)
theorem nI_lt0 {a : Nat} (h : a < 2 ^ 31) : nI a < 0 ↔ False := ⟨fun z => nI_pos h z, fun z => z.elim⟩
theorem nI_0lt {a : Nat} (h : a < 2 ^ 31) : 0 < nI a ↔ 0 < a := nI_ltI (a := 0) (by decide) h
theorem nI_n1 {a : Nat} (h : a < 2 ^ 31) : nI a = -1 ↔ False := ⟨fun z => by
  have h1 := congrArg Int32.toInt z
  rw [nI_toInt h, show (-1 : Int32).toInt = -1 by decide] at h1
  omega, fun z => z.elim⟩
theorem n1_nI {a : Nat} (h : a < 2 ^ 31) : -1 = nI a ↔ False := ⟨fun z => (nI_n1 h).mp z.symm, fun z => z.elim⟩
theorem n1_lt {a : Nat} (h : a < 2 ^ 31) : (-1 : Int32) < nI a ↔ True := by
  rw [Int32.lt_iff_toInt_lt, nI_toInt h, show (-1 : Int32).toInt = -1 by decide]
  simp only [iff_true]
  omega
theorem lt_n1 {a : Nat} (h : a < 2 ^ 31) : nI a < (-1 : Int32) ↔ False := by
  rw [Int32.lt_iff_toInt_lt, nI_toInt h, show (-1 : Int32).toInt = -1 by decide]
  simp only [iff_false]
  omega
theorem n1_0 : ((-1 : Int32) = 0) ↔ False := by decide
theorem n1_n1 : ((-1 : Int32) = -1) ↔ True := by decide
theorem n1_l0 : ((-1 : Int32) < 0) ↔ True := by decide
/-- the results of loops that count -/
noncomputable def cnt : Nat → (Nat → Prop) → Nat
  | 0, _ => 0
  | n + 1, P => cnt n P + @ite _ (P n) (Classical.propDecidable _) 1 0
theorem cnt_0 (P : Nat → Prop) : cnt 0 P = 0 := rfl
theorem cnt_t {n : Nat} {P : Nat → Prop} (h : P n) : cnt (n + 1) P = cnt n P + 1 := congrArg (cnt n P + ·) (if_pos h)
theorem cnt_f {n : Nat} {P : Nat → Prop} (h : ¬ P n) : cnt (n + 1) P = cnt n P := congrArg (cnt n P + ·) (if_neg h)
theorem cnt_le (n : Nat) (P : Nat → Prop) : cnt n P ≤ n := by
  induction n with
  | zero => exact Nat.le_refl 0
  | succ n ih =>
    by_cases h : P n
    · rw [cnt_t h]; omega
    · rw [cnt_f h]; omega
theorem cnt_congr {n : Nat} {P Q : Nat → Prop} (h : ∀ p, p < n → (P p ↔ Q p)) : cnt n P = cnt n Q := by
  induction n with
  | zero => rfl
  | succ n ih =>
    have h1 := ih (fun p hp => h p (by omega))
    by_cases hp : P n
    · rw [cnt_t hp, cnt_t ((h n (by omega)).mp hp), h1]
    · rw [cnt_f hp, cnt_f (fun z => hp ((h n (by omega)).mpr z)), h1]
theorem cnt_none {n : Nat} {P : Nat → Prop} (h : ∀ p, p < n → ¬ P p) : cnt n P = 0 := by
  induction n with
  | zero => rfl
  | succ n ih => rw [cnt_f (h n (by omega)), ih (fun p hp => h p (by omega))]
theorem cnt_add {n k : Nat} {P : Nat → Prop} (h : ∀ p, n ≤ p → p < n + k → ¬ P p) : cnt (n + k) P = cnt n P := by
  induction k with
  | zero => rfl
  | succ k ih => rw [← Nat.add_assoc, cnt_f (h (n + k) (by omega) (by omega)), ih (fun p h1 h2 => h p h1 (by omega))]
theorem cnt_split (n : Nat) (P Q : Nat → Prop) : cnt n P = cnt n (fun p => P p ∧ Q p) + cnt n (fun p => P p ∧ ¬ Q p) := by
  induction n with
  | zero => rfl
  | succ n ih =>
    by_cases h1 : P n
    · by_cases h2 : Q n
      · rw [cnt_t h1, cnt_t (P := fun p => P p ∧ Q p) ⟨h1, h2⟩, cnt_f (P := fun p => P p ∧ ¬ Q p) (fun z => z.2 h2)]; omega
      · rw [cnt_t h1, cnt_f (P := fun p => P p ∧ Q p) (fun z => h2 z.2), cnt_t (P := fun p => P p ∧ ¬ Q p) ⟨h1, h2⟩]; omega
    · rw [cnt_f h1, cnt_f (P := fun p => P p ∧ Q p) (fun z => h1 z.1), cnt_f (P := fun p => P p ∧ ¬ Q p) (fun z => h1 z.1)]; omega
theorem cnt_pos {n : Nat} {P : Nat → Prop} : 0 < cnt n P ↔ ∃ p, p < n ∧ P p := by
  induction n with
  | zero => exact ⟨fun z => absurd z (Nat.lt_irrefl 0), fun ⟨p, h, _⟩ => absurd h (Nat.not_lt_zero p)⟩
  | succ n ih =>
    by_cases h : P n
    · rw [cnt_t h]; exact ⟨fun _ => ⟨n, by omega, h⟩, fun _ => by omega⟩
    · rw [cnt_f h, ih]
      exact ⟨fun ⟨p, h1, h2⟩ => ⟨p, by omega, h2⟩, fun ⟨p, h1, h2⟩ => ⟨p, by
        by_cases e : p = n
        · exact absurd (e ▸ h2) h
        · omega, h2⟩⟩
/-! bits -/
noncomputable def bts : Nat → (Nat → Prop) → Nat
  | 0, _ => 0
  | n + 1, P => bts n P + @ite _ (P n) (Classical.propDecidable _) (2 ^ n) 0
theorem bts_0 (P : Nat → Prop) : bts 0 P = 0 := rfl
theorem bts_t {n : Nat} {P : Nat → Prop} (h : P n) : bts (n + 1) P = bts n P + 2 ^ n := congrArg (bts n P + ·) (if_pos h)
theorem bts_f {n : Nat} {P : Nat → Prop} (h : ¬ P n) : bts (n + 1) P = bts n P := congrArg (bts n P + ·) (if_neg h)
theorem bts_lt (n : Nat) (P : Nat → Prop) : bts n P < 2 ^ n := by
  induction n with
  | zero => exact Nat.one_pos
  | succ n ih =>
    rw [Nat.pow_succ]
    by_cases h : P n
    · rw [bts_t h]; omega
    · rw [bts_f h]; omega
theorem bts_bit {n : Nat} {P : Nat → Prop} {i : Nat} : (bts n P).testBit i = true ↔ i < n ∧ P i := by
  induction n with
  | zero => rw [bts_0, Nat.zero_testBit]; exact ⟨fun z => (by cases z), fun z => absurd z.1 (Nat.not_lt_zero i)⟩
  | succ n ih =>
    by_cases h : P n
    · rw [bts_t h, Nat.add_comm]
      by_cases e : i = n
      · subst e
        rw [Nat.testBit_two_pow_add_eq, Nat.testBit_lt_two_pow (bts_lt i P)]
        exact ⟨fun _ => ⟨by omega, h⟩, fun _ => rfl⟩
      · by_cases g : i < n
        · rw [Nat.testBit_two_pow_add_gt g, ih]
          exact ⟨fun z => ⟨by omega, z.2⟩, fun z => ⟨g, z.2⟩⟩
        · have hlt : 2 ^ n + bts n P < 2 ^ i := by
            have h1 := bts_lt n P
            have h2 : 2 ^ (n + 1) ≤ 2 ^ i := Nat.pow_le_pow_right (by decide) (by omega)
            rw [Nat.pow_succ] at h2
            omega
          rw [Nat.testBit_lt_two_pow hlt]
          exact ⟨fun z => (by cases z), fun z => by omega⟩
    · rw [bts_f h, ih]
      exact ⟨fun z => ⟨by omega, z.2⟩, fun z => ⟨by
        by_cases e : i = n
        · exact absurd (e ▸ z.2) h
        · omega, z.2⟩⟩
theorem bts_uniq {n x : Nat} {P : Nat → Prop} (hx : x < 2 ^ n) (h : ∀ i, i < n → (x.testBit i = true ↔ P i)) : x = bts n P := by
  apply Nat.eq_of_testBit_eq
  intro i
  rw [Bool.eq_iff_iff, bts_bit]
  by_cases hi : i < n
  · rw [h i hi]; exact ⟨fun z => ⟨hi, z⟩, fun z => z.2⟩
  · rw [Nat.testBit_lt_two_pow (Nat.lt_of_lt_of_le hx (Nat.pow_le_pow_right (by decide) (by omega)))]
    exact ⟨fun z => (by cases z), fun z => absurd z.1 hi⟩
theorem bts_congr {n : Nat} {P Q : Nat → Prop} (h : ∀ p, p < n → (P p ↔ Q p)) : bts n P = bts n Q := bts_uniq (bts_lt n P) (fun i hi => by rw [bts_bit, ← h i hi]; exact ⟨fun z => z.2, fun z => ⟨hi, z⟩⟩)
theorem bts_self {n x : Nat} (hx : x < 2 ^ n) : bts n (fun i => x.testBit i = true) = x := (bts_uniq hx (fun _ _ => Iff.rfl)).symm
theorem sh_amt : ∀ k, k < 32 → ((nI k &&& 31).toBitVec.smod 32).toNat = k := by decide
theorem sh_amu : ∀ k, k < 32 → (((nI k).toUInt32 &&& Int32.toUInt32 31).toBitVec % 32).toNat = k := by decide
theorem bi_shr {n k : Nat} (h : n < 2 ^ 31) (hk : k < 32) : nI n >>> (nI k &&& 31) = nI (n / 2 ^ k) := pk_shrN h _ k (sh_amt k hk)
theorem bi_ushr {n k : Nat} (h : n < 2 ^ 32) (hk : k < 32) : ((nI n).toUInt32 >>> ((nI k).toUInt32 &&& Int32.toUInt32 31)).toInt32 = nI (n / 2 ^ k) := pk_ushrN h _ k (sh_amu k hk)
theorem bi_shl {n k : Nat} (hk : k < 32) (h : n * 2 ^ k < 2 ^ 32) : nI n <<< (nI k &&& 31) = nI (n * 2 ^ k) := pk_shlN _ k (sh_amt k hk) h
theorem bi_1shl {k : Nat} (hk : k < 32) : nI 1 <<< (nI k &&& 31) = nI (2 ^ k) := by
  rw [bi_shl hk (by rw [Nat.one_mul]; exact Nat.pow_lt_pow_right (by decide) hk), Nat.one_mul]
theorem bi_and (a b : Nat) : nI a &&& nI b = nI (a &&& b) := Int32.toBitVec_inj.mp (by
  show BitVec.ofNat 32 a &&& BitVec.ofNat 32 b = BitVec.ofNat 32 (a &&& b)
  exact (BitVec.ofNat_and).symm)
theorem bi_or (a b : Nat) : nI a ||| nI b = nI (a ||| b) := Int32.toBitVec_inj.mp (by
  show BitVec.ofNat 32 a ||| BitVec.ofNat 32 b = BitVec.ofNat 32 (a ||| b)
  exact (BitVec.ofNat_or).symm)
theorem bi_xor (a b : Nat) : nI a ^^^ nI b = nI (a ^^^ b) := Int32.toBitVec_inj.mp (by
  show BitVec.ofNat 32 a ^^^ BitVec.ofNat 32 b = BitVec.ofNat 32 (a ^^^ b)
  exact (BitVec.ofNat_xor).symm)
theorem bi_and1 (a : Nat) : nI a &&& nI 1 = nI (a % 2) := by rw [bi_and, Nat.and_one_is_mod]
theorem bi_m1 : (-1 : Int32) = nI (2 ^ 32 - 1) := by decide
/-- bits of a that b hasn't -/
def ndf (a b : Nat) : Nat := a ^^^ (a &&& b)
theorem ndf_bit (a b i : Nat) : (ndf a b).testBit i = (a.testBit i && !(b.testBit i)) := by
  unfold ndf
  rw [Nat.testBit_xor, Nat.testBit_and]
  cases a.testBit i <;> cases b.testBit i <;> rfl
theorem bi_andn {a b : Nat} (ha : a < 2 ^ 32) : nI a &&& (nI b ^^^ (-1)) = nI (ndf a b) := by
  rw [bi_m1, bi_xor, bi_and]
  congr 1
  apply Nat.eq_of_testBit_eq
  intro i
  rw [ndf_bit, Nat.testBit_and, Nat.testBit_xor, Nat.testBit_two_pow_sub_one]
  by_cases hi : i < 32
  · simp [hi]
  · rw [Nat.testBit_lt_two_pow (Nat.lt_of_lt_of_le ha (Nat.pow_le_pow_right (by decide) (by omega)))]
    rfl
theorem bi_test {n k : Nat} : nI (n / 2 ^ k % 2) = nI 1 ↔ n.testBit k = true := by
  rw [Nat.testBit_eq_decide_div_mod_eq, decide_eq_true_eq, nI_eq (by omega) (by decide)]
/-! how many bits -/
def popN (b : Nat) : Nat → Nat
  | 0 => 0
  | n + 1 => popN b n + b / 2 ^ n % 2
theorem pop_cnt (b n : Nat) : popN b n = cnt n (fun i => b.testBit i = true) := by
  induction n with
  | zero => rfl
  | succ n ih =>
    show popN b n + b / 2 ^ n % 2 = _
    by_cases h : b.testBit n = true
    · rw [cnt_t (P := fun i => b.testBit i = true) h, ih]
      rw [Nat.testBit_eq_decide_div_mod_eq, decide_eq_true_eq] at h
      rw [h]
    · rw [cnt_f (P := fun i => b.testBit i = true) h, ih]
      rw [Nat.testBit_eq_decide_div_mod_eq, decide_eq_true_eq] at h
      omega
def bc1 (i : Nat) : Nat := i - (i / 2 ^ 1 &&& 1431655765)
def bc2 (i : Nat) : Nat := (i &&& 858993459) + (i / 2 ^ 2 &&& 858993459)
def bc3 (i : Nat) : Nat := (i + i / 2 ^ 4) &&& 252645135
def bc4 (i : Nat) : Nat := i + i / 2 ^ 8
def bc5 (i : Nat) : Nat := (i + i / 2 ^ 16) &&& 63
def bcOK (i : Nat) : Bool := Nat.ble (i / 2 ^ 1 &&& 1431655765) i && (Nat.ble (bc2 (bc1 i)) 2147483647 && (Nat.ble (bc1 i) 2147483647 && (Nat.ble (bc3 (bc2 (bc1 i))) 2147483647 && (Nat.ble (bc4 (bc3 (bc2 (bc1 i)))) 2147483647 && Nat.beq (bc5 (bc4 (bc3 (bc2 (bc1 i))))) (popN i 16)))))
def bcAll (lo : Nat) : Nat → Bool
  | 0 => true
  | n + 1 => bcOK (lo + n) && bcAll lo n
theorem bcAll_at {lo n : Nat} (h : bcAll lo n = true) {i : Nat} (hi : lo ≤ i) (hj : i < lo + n) : bcOK i = true := by
  induction n with
  | zero => omega
  | succ n ih =>
    have h2 := (Bool.and_eq_true _ _ ▸ h : bcOK (lo + n) = true ∧ bcAll lo n = true)
    by_cases e : i = lo + n
    · rw [e]; exact h2.1
    · exact ih h2.2 (by omega)
