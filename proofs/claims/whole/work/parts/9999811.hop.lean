/-! ===== the heap's instructions together ===== -/
def hle (h h' : AH) : Prop := h.2.1 ≤ h'.2.1 ∧ h.2.2 ≤ h'.2.2
theorem hle.rf (h : AH) : hle h h := ⟨Nat.le_refl _, Nat.le_refl _⟩
theorem hle.tr {a b c : AH} (h1 : hle a b) (h2 : hle b c) : hle a c := ⟨Nat.le_trans h1.1 h2.1, Nat.le_trans h1.2 h2.2⟩
theorem ialO_inv {stk : AL} {h : AH} {q : AL × AH} (e : ialO stk h = some q) : ∃ i a r n f, stk = .int i :: .ref a :: r ∧ ¬ (i < 0 ∨ n ≤ i.toNatClampNeg) ∧ q = (.int (f i.toNatClampNeg) :: r, h) ∧ ((a = 2000000 ∧ h.1 a = .inl (77, n, .inl f)) ∨ (a < h.2.1 ∧ h.1 a = .inl (0, n, .inl f))) := by
  unfold ialO at e
  split at e
  · rename_i i a r
    split at e
    · rename_i n f es
      split at e
      · cases e
      · rename_i hi; cases e; exact ⟨i, a, r, n, f, rfl, hi, rfl, Or.inl (scAt_inv es)⟩
    · split at e
      · rename_i n f es
        split at e
        · cases e
        · rename_i hi; cases e; exact ⟨i, a, r, n, f, rfl, hi, rfl, Or.inr (iAt_inv es)⟩
      · cases e
  · cases e
theorem iasO_inv {stk : AL} {h : AH} {q : AL × AH} (e : iasO stk h = some q) : ∃ x i a r n f, stk = .int x :: .int i :: .ref a :: r ∧ ¬ (i < 0 ∨ n ≤ i.toNatClampNeg) ∧ q = (r, hput h a (.inl (0, n, .inl (upd f i.toNatClampNeg x)))) ∧ a < h.2.1 ∧ h.1 a = .inl (0, n, .inl f) := by
  unfold iasO at e
  split at e
  · rename_i x i a r
    split at e
    · rename_i n f es
      split at e
      · cases e
      · rename_i hi; cases e; exact ⟨x, i, a, r, n, f, rfl, hi, rfl, iAt_inv es⟩
    · cases e
  · cases e
theorem balO_inv {stk : AL} {h : AH} {q : AL × AH} (e : balO stk h = some q) : ∃ i a r n f, stk = .int i :: .ref a :: r ∧ ¬ (i < 0 ∨ n ≤ i.toNatClampNeg) ∧ q = (.int (f i.toNatClampNeg) :: r, h) ∧ a < h.2.1 ∧ h.1 a = .inl (2, n, .inl f) := by
  unfold balO at e
  split at e
  · rename_i i a r
    split at e
    · rename_i n f es
      split at e
      · cases e
      · rename_i hi; cases e; exact ⟨i, a, r, n, f, rfl, hi, rfl, iAt_inv es⟩
    · cases e
  · cases e
theorem basO_inv {stk : AL} {h : AH} {q : AL × AH} (e : basO stk h = some q) : ∃ x i a r n f, stk = .int x :: .int i :: .ref a :: r ∧ ¬ (i < 0 ∨ n ≤ i.toNatClampNeg) ∧ q = (r, hput h a (.inl (2, n, .inl (upd f i.toNatClampNeg x.toInt8.toInt32)))) ∧ a < h.2.1 ∧ h.1 a = .inl (2, n, .inl f) := by
  unfold basO at e
  split at e
  · rename_i x i a r
    split at e
    · rename_i n f es
      split at e
      · cases e
      · rename_i hi; cases e; exact ⟨x, i, a, r, n, f, rfl, hi, rfl, iAt_inv es⟩
    · cases e
  · cases e
theorem lalO_inv {stk : AL} {h : AH} {q : AL × AH} (e : lalO stk h = some q) : ∃ i a r n f, stk = .int i :: .ref a :: r ∧ ¬ (i < 0 ∨ n ≤ i.toNatClampNeg) ∧ q = (.long (f i.toNatClampNeg) :: r, h) ∧ a < h.2.1 ∧ h.1 a = .inl (1, n, .inr (.inl f)) := by
  unfold lalO at e
  split at e
  · rename_i i a r
    split at e
    · rename_i n f es
      split at e
      · cases e
      · rename_i hi; cases e; exact ⟨i, a, r, n, f, rfl, hi, rfl, lAt_inv es⟩
    · cases e
  · cases e
theorem lasO_inv {stk : AL} {h : AH} {q : AL × AH} (e : lasO stk h = some q) : ∃ x i a r n f, stk = .long x :: .int i :: .ref a :: r ∧ ¬ (i < 0 ∨ n ≤ i.toNatClampNeg) ∧ q = (r, hput h a (.inl (1, n, .inr (.inl (vp_updL f i.toNatClampNeg x))))) ∧ a < h.2.1 ∧ h.1 a = .inl (1, n, .inr (.inl f)) := by
  unfold lasO at e
  split at e
  · rename_i x i a r
    split at e
    · rename_i n f es
      split at e
      · cases e
      · rename_i hi; cases e; exact ⟨x, i, a, r, n, f, rfl, hi, rfl, lAt_inv es⟩
    · cases e
  · cases e
theorem aalO_inv {stk : AL} {h : AH} {q : AL × AH} (e : aalO stk h = some q) : ∃ i a r t n f, stk = .int i :: .ref a :: r ∧ ¬ (i < 0 ∨ n ≤ i.toNatClampNeg) ∧ q = (va_rf (f i.toNatClampNeg) :: r, h) ∧ (t = 3 ∨ t = 4) ∧ a < h.2.1 ∧ h.1 a = .inl (t, n, .inr (.inr (.inr (.inr f)))) := by
  unfold aalO at e
  split at e
  · rename_i i a r
    split at e
    · rename_i t n f es
      split at e
      · cases e
      · rename_i hi; cases e; exact ⟨i, a, r, t, n, f, rfl, hi, rfl, qAt_inv es⟩
    · cases e
  · cases e
theorem aasO_inv {stk : AL} {h : AH} {q : AL × AH} (e : aasO stk h = some q) : (∃ v i a r n f vs, stk = .ref v :: .int i :: .ref a :: r ∧ ¬ (i < 0 ∨ n ≤ i.toNatClampNeg) ∧ q = (r, hput h a (.inl (4, n, .inr (.inr (.inr (.inr (va_up f i.toNatClampNeg (some v)))))))) ∧ a < h.2.1 ∧ h.1 a = .inl (4, n, .inr (.inr (.inr (.inr f)))) ∧ v < h.2.1 ∧ h.1 v = .inr (3, vs)) ∨
    (∃ i a r n f, stk = .null :: .int i :: .ref a :: r ∧ ¬ (i < 0 ∨ n ≤ i.toNatClampNeg) ∧ q = (r, hput h a (.inl (4, n, .inr (.inr (.inr (.inr (va_up f i.toNatClampNeg none))))))) ∧ a < h.2.1 ∧ h.1 a = .inl (4, n, .inr (.inr (.inr (.inr f))))) := by
  unfold aasO at e
  split at e
  · rename_i v i a r
    split at e
    · rename_i n f vs es eo
      split at e
      · cases e
      · rename_i hi; cases e; exact Or.inl ⟨v, i, a, r, n, f, vs, rfl, hi, rfl, (qAt_inv es).2.1, (qAt_inv es).2.2, (oAt_inv eo).1, (oAt_inv eo).2⟩
    · cases e
  · rename_i i a r
    split at e
    · rename_i n f es
      split at e
      · cases e
      · rename_i hi; cases e; exact Or.inr ⟨i, a, r, n, f, rfl, hi, rfl, (qAt_inv es).2.1, (qAt_inv es).2.2⟩
    · cases e
  · cases e
theorem alnO_inv {stk : AL} {h : AH} {q : AL × AH} (e : alnO stk h = some q) : ∃ a r n, stk = .ref a :: r ∧ q = (.int (Int32.ofNat n) :: r, h) ∧ ((a = 2000000 ∧ ∃ f, h.1 a = .inl (77, n, .inl f)) ∨ (a < h.2.1 ∧ ∃ t x, t < 5 ∧ h.1 a = .inl (t, n, x))) := by
  unfold alnO at e
  split at e
  · rename_i a r
    split at e
    · rename_i n f es
      cases e; exact ⟨a, r, n, rfl, rfl, Or.inl ⟨(scAt_inv es).1, f, (scAt_inv es).2⟩⟩
    · split at e
      · rename_i t n x es
        split at e
        · rename_i ht; cases e; exact ⟨a, r, n, rfl, rfl, Or.inr ⟨(rAt_inv es).1, t, x, ht, (rAt_inv es).2⟩⟩
        · cases e
      · cases e
  · cases e
theorem nwaO_inv {t : ArrayType} {stk : AL} {h : AH} {q : AL × AH} (e : nwaO t stk h = some q) : ∃ n r ev, stk = .int n :: r ∧ ¬ n < 0 ∧ n.toNatClampNeg ≤ 100000 ∧ h.2.1 < 1000000 ∧ nwA t n.toNatClampNeg = some ev ∧ q = (.ref h.2.1 :: r, hnew h ev n.toNatClampNeg) := by
  unfold nwaO at e
  split at e
  · rename_i n r
    split at e
    · cases e
    · rename_i hn
      split at e
      · rename_i ev ee; cases e; exact ⟨n, r, ev, rfl, fun z => hn (Or.inl z), Nat.not_lt.mp fun z => hn (Or.inr (Or.inl z)), Nat.not_le.mp fun z => hn (Or.inr (Or.inr z)), ee, rfl⟩
      · cases e
  · cases e
theorem nwqO_inv {stk : AL} {h : AH} {q : AL × AH} (e : nwqO stk h = some q) : ∃ n r, stk = .int n :: r ∧ ¬ n < 0 ∧ n.toNatClampNeg ≤ 100000 ∧ h.2.1 < 1000000 ∧ q = (.ref h.2.1 :: r, hnew h (.inl (4, n.toNatClampNeg, .inr (.inr (.inr (.inr (fun _ => none)))))) n.toNatClampNeg) := by
  unfold nwqO at e
  split at e
  · rename_i n r
    split at e
    · cases e
    · rename_i hn
      cases e; exact ⟨n, r, rfl, fun z => hn (Or.inl z), Nat.not_lt.mp fun z => hn (Or.inr (Or.inl z)), Nat.not_le.mp fun z => hn (Or.inr (Or.inr z)), rfl⟩
  · cases e
theorem mnaO_inv {stk : AL} {h : AH} {q : AL × AH} (e : mnaO stk h = some q) : ∃ k n r, stk = .int k :: .int n :: r ∧ ¬ n < 0 ∧ ¬ k < 0 ∧ n.toNatClampNeg ≤ 100000 ∧ k.toNatClampNeg ≤ 100000 ∧ h.2.1 + (1 + n.toNatClampNeg) ≤ 1000000 ∧ q = (.ref h.2.1 :: r, hmna h n.toNatClampNeg k.toNatClampNeg) := by
  unfold mnaO at e
  split at e
  · rename_i k n r
    split at e
    · cases e
    · rename_i hn
      cases e
      exact ⟨k, n, r, rfl, fun z => hn (Or.inl z), fun z => hn (Or.inr (Or.inl z)), Nat.not_lt.mp fun z => hn (Or.inr (Or.inr (Or.inl z))), Nat.not_lt.mp fun z => hn (Or.inr (Or.inr (Or.inr (Or.inl z)))), Nat.not_lt.mp fun z => hn (Or.inr (Or.inr (Or.inr (Or.inr z)))), rfl⟩
  · cases e
theorem newO_inv {ds : List Nat} {stk : AL} {h : AH} {q : AL × AH} (e : newO ds stk h = some q) : ∃ ci, ds = [ci] ∧ ci < 10 ∧ h.2.1 < 1000000 ∧ q = (.ref h.2.1 :: stk, hnew h (.inr (ci, dfl ci)) (clN ci)) := by
  unfold newO at e
  split at e
  · rename_i ci
    split at e
    · rename_i hc; cases e; exact ⟨ci, rfl, hc.1, hc.2, rfl⟩
    · cases e
  · cases e
/-- what the tables must say of an instruction -/
def LK (s : State) (args : Array Value) (meth : Method) (o : Nat) (i : Instr) (ds : List Nat) : Prop := match i with
  | .getfield idx => ∀ ci k, ds = [ci, k] → FLk s args o idx ci k
  | .putfield idx => ∀ ci k, ds = [ci, k] → FLk s args o idx ci k ∧ ∀ Cn T N, vwCl[ci]? = some (Cn, T, N) → (T k).2.2.2 = false ∨ (meth.name = "<init>" ∧ (T k).1 = cn o ∧ (Cond.fieldLink (cn o) idx (T k).1 (T k).2.1 (T k).2.2.1).before args s = true)
  | .new idx => ∀ ci, ds = [ci] → ∃ Cn T, vwCl[ci]? = some (Cn, T, clN ci) ∧ (Cond.classLink (cn o) idx Cn).before args s = true
  | .anewarray idx => (Cond.classLink (cn o) idx RX3).before args s = true
  | .multianewarray idx k => k = 2 ∧ (Cond.classLink (cn o) idx "[[I").before args s = true
  | _ => True
theorem hop_le {i : Instr} {ds : List Nat} {stk : AL} {h : AH} {q : AL × AH} (e : hop i ds stk h = some q) : hle h q.2 := by
  unfold hop at e
  split at e
  · obtain ⟨_, _, _, _, _, _, -, -, -, -, -, rfl⟩ := gfO_inv e; exact hle.rf _
  · obtain ⟨_, _, _, _, _, _, -, -, -, -, -, -, rfl⟩ := pfO_inv e; exact hle.rf _
  · obtain ⟨_, _, _, _, _, -, -, rfl, -⟩ := ialO_inv e; exact hle.rf _
  · obtain ⟨_, _, _, _, _, _, -, -, rfl, -⟩ := iasO_inv e; exact hle.rf _
  · obtain ⟨_, _, _, _, _, -, -, rfl, -⟩ := balO_inv e; exact hle.rf _
  · obtain ⟨_, _, _, _, _, _, -, -, rfl, -⟩ := basO_inv e; exact hle.rf _
  · obtain ⟨_, _, _, _, _, -, -, rfl, -⟩ := lalO_inv e; exact hle.rf _
  · obtain ⟨_, _, _, _, _, _, -, -, rfl, -⟩ := lasO_inv e; exact hle.rf _
  · obtain ⟨_, _, _, _, _, _, -, -, rfl, -⟩ := aalO_inv e; exact hle.rf _
  · rcases aasO_inv e with ⟨_, _, _, _, _, _, _, -, -, rfl, -⟩ | ⟨_, _, _, _, _, -, -, rfl, -⟩ <;> exact hle.rf _
  · obtain ⟨_, _, _, -, rfl, -⟩ := alnO_inv e; exact hle.rf _
  · obtain ⟨_, _, _, -, -, -, -, -, rfl⟩ := nwaO_inv e; exact ⟨Nat.le_succ _, Nat.le_add_right _ _⟩
  · obtain ⟨_, _, -, -, -, -, rfl⟩ := nwqO_inv e; exact ⟨Nat.le_succ _, Nat.le_add_right _ _⟩
  · obtain ⟨_, _, _, -, -, -, -, -, -, rfl⟩ := mnaO_inv e; exact ⟨Nat.le_add_right _ _, Nat.le_add_right _ _⟩
  · obtain ⟨_, -, -, -, rfl⟩ := newO_inv e; exact ⟨Nat.le_succ _, Nat.le_add_right _ _⟩
  · cases e
section HOPA
variable {p : Program} {l : Launch} {e : Env} {R : Room} {s : State} {m : MethodId} {args : Array Value} {below : List Frame} {meth : Method} {c : Code} {H : Heap} {locs : List Loc} {cells slots : Nat} {Q : State → Prop}
variable {G : GG} {cc : ByteArray} {pc : Nat} {ls : Array Slot} {o : Nat} {h : AH}
set_option maxHeartbeats 4000000 in
theorem hop_ok {i : Instr} {ds : List Nat} {stk : AL} {q : AL × AH} (C : CX G p s m args c cc o) (hd : decode cc pc = .ok (i, ilen i)) (hK : LK s args meth o i ds) (hs : hop i ds stk h = some q) (hr : HR G h H) (hl : ∀ z ∈ locs, gb G ≤ z.base)
    {cells' slots' : Nat} (ec : cells + (q.2.2.1 - h.2.1) = cells') (es : slots + (q.2.2.2 - h.2.2) = slots') (hcells : cells' ≤ R.cells) (hslots : slots' ≤ R.slots)
    (kk : ∀ (H' : Heap) (locs' : List Loc), HR G q.2 H' → (∀ z ∈ locs', gb G ≤ z.base) → W p l e R s m args below meth c H' locs' cells' slots' Q (F0 m (pc + ilen i) ls (q.1.map (tv G)))) :
    W p l e R s m args below meth c H locs cells slots Q (F0 m pc ls (stk.map (tv G))) := by
  have sm : ∀ h1 : AH, h1.2 = h.2 → cells + (h1.2.1 - h.2.1) = cells' → slots + (h1.2.2 - h.2.2) = slots' → cells' = cells ∧ slots' = slots := fun h1 z1 z2 z3 => by rw [z1] at z2 z3; omega
  unfold hop at hs
  split at hs
  · obtain ⟨ci, k, a, r, fs, v, rfl, rfl, h1, h2, h3, rfl⟩ := gfO_inv hs
    have kk := kk H locs hr hl
    obtain ⟨rfl, rfl⟩ := sm _ rfl ec es
    exact gf_ok C hr (hK ci k rfl) h1 h2 h3 hd kk
  · obtain ⟨ci, k, v, a, r, fs, rfl, rfl, h1, h2, h3, h4, rfl⟩ := pfO_inv hs
    obtain ⟨rfl, rfl⟩ := sm _ rfl ec es
    exact pf_ok C hr hl (hK ci k rfl).1 (hK ci k rfl).2 h1 h2 h3 h4 hd kk
  · obtain ⟨i, a, r, n, f, rfl, hi, rfl, ⟨rfl, h2⟩ | ⟨h1, h2⟩⟩ := ialO_inv hs
    · have kk := kk H locs hr hl
      obtain ⟨rfl, rfl⟩ := sm _ rfl ec es
      exact scl_ok C hr h2 hi hd kk
    · have kk := kk H locs hr hl
      obtain ⟨rfl, rfl⟩ := sm _ rfl ec es
      exact ial_ok C hr h1 h2 hi hd kk
  · obtain ⟨x, i, a, r, n, f, rfl, hi, rfl, h1, h2⟩ := iasO_inv hs
    obtain ⟨rfl, rfl⟩ := sm _ rfl ec es
    exact ias_ok C hr hl h1 h2 hi hd kk
  · obtain ⟨i, a, r, n, f, rfl, hi, rfl, h1, h2⟩ := balO_inv hs
    have kk := kk H locs hr hl
    obtain ⟨rfl, rfl⟩ := sm _ rfl ec es
    exact bal_ok C hr h1 h2 hi hd kk
  · obtain ⟨x, i, a, r, n, f, rfl, hi, rfl, h1, h2⟩ := basO_inv hs
    obtain ⟨rfl, rfl⟩ := sm _ rfl ec es
    exact bas_ok C hr hl h1 h2 hi hd kk
  · obtain ⟨i, a, r, n, f, rfl, hi, rfl, h1, h2⟩ := lalO_inv hs
    have kk := kk H locs hr hl
    obtain ⟨rfl, rfl⟩ := sm _ rfl ec es
    exact lal_ok C hr h1 h2 hi hd kk
  · obtain ⟨x, i, a, r, n, f, rfl, hi, rfl, h1, h2⟩ := lasO_inv hs
    obtain ⟨rfl, rfl⟩ := sm _ rfl ec es
    exact las_ok C hr hl h1 h2 hi hd kk
  · obtain ⟨i, a, r, t, n, f, rfl, hi, rfl, ht, h1, h2⟩ := aalO_inv hs
    have kk := kk H locs hr hl
    obtain ⟨rfl, rfl⟩ := sm _ rfl ec es
    exact aal_ok C hr ht h1 h2 hi hd kk
  · rcases aasO_inv hs with ⟨v, i, a, r, n, f, vs, rfl, hi, rfl, h1, h2, h3, h4⟩ | ⟨i, a, r, n, f, rfl, hi, rfl, h1, h2⟩
    · obtain ⟨rfl, rfl⟩ := sm _ rfl ec es
      exact aas_ok C hr hl h1 h2 h3 h4 hi hd kk
    · obtain ⟨rfl, rfl⟩ := sm _ rfl ec es
      exact aasN_ok C hr hl h1 h2 hi hd kk
  · obtain ⟨a, r, n, rfl, rfl, ⟨rfl, f, h2⟩ | ⟨h1, t, x, ht, h2⟩⟩ := alnO_inv hs
    · have kk := kk H locs hr hl
      obtain ⟨rfl, rfl⟩ := sm _ rfl ec es
      exact scn_ok C hr h2 hd kk
    · have kk := kk H locs hr hl
      obtain ⟨rfl, rfl⟩ := sm _ rfl ec es
      exact aln_ok C hr h1 h2 ht hd kk
  · obtain ⟨n, r, ev, rfl, h1, h2, h3, h4, rfl⟩ := nwaO_inv hs
    obtain rfl : cells' = cells + 1 := by rw [← ec]; show cells + (h.2.1 + 1 - h.2.1) = _; omega
    obtain rfl : slots' = slots + n.toNatClampNeg := by rw [← es]; show slots + (h.2.2 + n.toNatClampNeg - h.2.2) = _; omega
    exact nwa_ok C hr h3 h1 h2 h4 hd hcells hslots (fun H' q => kk H' locs q hl)
  · obtain ⟨n, r, rfl, h1, h2, h3, rfl⟩ := nwqO_inv hs
    obtain rfl : cells' = cells + 1 := by rw [← ec]; show cells + (h.2.1 + 1 - h.2.1) = _; omega
    obtain rfl : slots' = slots + n.toNatClampNeg := by rw [← es]; show slots + (h.2.2 + n.toNatClampNeg - h.2.2) = _; omega
    exact nwq_ok C hr h3 h1 h2 hK hd hcells hslots (fun H' q => kk H' locs q hl)
  · obtain ⟨k, n, r, rfl, h1, h2, h3, h4, h5, rfl⟩ := mnaO_inv hs
    obtain ⟨rfl, hlk⟩ := hK
    obtain rfl : cells' = cells + (1 + n.toNatClampNeg) := by rw [← ec]; show cells + (h.2.1 + (1 + n.toNatClampNeg) - h.2.1) = _; omega
    obtain rfl : slots' = slots + (n.toNatClampNeg + n.toNatClampNeg * k.toNatClampNeg) := by rw [← es]; show slots + (h.2.2 + (n.toNatClampNeg + n.toNatClampNeg * k.toNatClampNeg) - h.2.2) = _; omega
    exact mna_ok C hr h5 h1 h2 h3 h4 hlk hd hcells hslots (fun H' q => kk H' locs q hl)
  · obtain ⟨ci, rfl, h1, h2, rfl⟩ := newO_inv hs
    obtain rfl : cells' = cells + 1 := by rw [← ec]; show cells + (h.2.1 + 1 - h.2.1) = _; omega
    obtain rfl : slots' = slots + clN ci := by rw [← es]; show slots + (h.2.2 + clN ci - h.2.2) = _; omega
    exact new_ok C hr h2 (hK ci rfl) hd hcells hslots (fun H' q => kk H' locs q hl)
  · cases hs
end HOPA
