/-! ===== runs without fuel ===== -/
theorem ctl_one {c : CF} {i : Instr} {ds : List Nat} {st : AS} {q : AO × AS} (e : ctlR c i ds st = some q) :
    ∃ y as hh, ∀ c' : CF, (∀ r, c y as hh = some r → c' y as hh = some r) → ctlR c' i ds st = some q := by
  obtain ⟨loc, stk, h⟩ := st
  have cl : ∀ {y as loc rest q}, callR (c y as h) loc rest = some q → ∀ c' : CF, (∀ r, c y as h = some r → c' y as h = some r) → callR (c' y as h) loc rest = some q := fun {y as loc rest q} z c' hc => by
    obtain ⟨r, h', h1, -⟩ := callR_inv z
    rw [hc _ h1, ← h1]
    exact z
  unfold ctlR at e
  split at e
  all_goals first
    | exact ⟨0, [], h, fun c' _ => e⟩
    | (cases e; done)
    | skip
  · rename_i ix
    split at e
    · rename_i y n ci loc stk h hst
      cases hst
      split at e
      · rename_i b rest hd
        split at e
        · rename_i c0 fs ho
          split at e
          · rename_i hc
            refine ⟨y, Value.ref b :: (List.take n stk).reverse, h, fun c' hc' => ?_⟩
            unfold ctlR
            simp only [hd, ho, if_pos hc]
            exact cl e c' hc'
          · cases e
        · cases e
      · cases e
    · rename_i y loc stk h hst
      cases hst
      exact ⟨0, [], h, fun c' _ => by unfold ctlR; exact e⟩
    · cases e
  · rename_i ix
    split at e
    · rename_i y n loc stk h hst
      cases hst
      split at e
      · rename_i b rest hd
        split at e
        · rename_i hc
          refine ⟨y, Value.ref b :: (List.take n stk).reverse, h, fun c' hc' => ?_⟩
          unfold ctlR
          simp only [hd, if_pos hc]
          exact cl e c' hc'
        · cases e
      · cases e
    · rename_i y loc stk h hst
      cases hst
      exact ⟨0, [], h, fun c' _ => by unfold ctlR; exact e⟩
    · cases e
  · rename_i ix
    split at e
    · rename_i y n loc stk h hst
      cases hst
      split at e
      · rename_i hc
        refine ⟨y, (List.take n stk).reverse, h, fun c' hc' => ?_⟩
        unfold ctlR
        simp only [if_pos hc]
        exact cl e c' hc'
      · cases e
    · rename_i y loc stk h hst
      cases hst
      exact ⟨0, [], h, fun c' _ => by unfold ctlR; exact e⟩
    · cases e
theorem leaf_one {c : CF} {i : Instr} {ds : List Nat} {st : AS} {q : AO × AS} (e : leafR c i ds st = some q) :
    ∃ y as hh, ∀ c' : CF, (∀ r, c y as hh = some r → c' y as hh = some r) → leafR c' i ds st = some q := by
  unfold leafR at e
  split at e
  · rename_i x hx
    exact ⟨0, [], st.2.2, fun c' _ => by unfold leafR; rw [hx]; exact e⟩
  · rename_i hx
    split at e
    · rename_i x hy
      exact ⟨0, [], st.2.2, fun c' _ => by unfold leafR; rw [hx, hy]; exact e⟩
    · rename_i hy
      obtain ⟨y, as, hh, h1⟩ := ctl_one e
      exact ⟨y, as, hh, fun c' hc => by unfold leafR; rw [hx, hy]; exact h1 c' hc⟩
theorem callB_up {P : MT} {r1 r2 : Nat → AT → AS → Option (AO × AS)} (h : ∀ d t st q, r1 d t st = some q → r2 d t st = some q) {d y : Nat} {as : List Value} {hh : AH} {q : (Option Value ⊕ Nat) × AH} (e : callB P r1 d y as hh = some q) : callB P r2 d y as hh = some q := by
  obtain ⟨r, h'⟩ := q
  obtain ⟨n, body, cs, th, r0, loc, stk, g1, g2, g3, g4, g5, g6⟩ := callB_inv e
  have g7 := h _ _ _ _ g4
  unfold callB at e ⊢
  rw [if_neg (by omega), g2] at e ⊢
  simp only [if_pos g3, g4, g7] at e ⊢
  exact e
theorem run_up {P : MT} : ∀ (n m d : Nat) (t : AT) (st : AS) (q : AO × AS), n ≤ m → run P n d t st = some q → run P m d t st = some q
  | 0, _, _, _, _, _, _, e => by cases e
  | n + 1, 0, _, _, _, _, h, _ => absurd h (by omega)
  | n + 1, m + 1, d, .leaf (i, ds), st, q, h, e => by
    rw [run_leaf] at e ⊢
    obtain ⟨y, as, hh, h1⟩ := leaf_one e
    exact h1 _ (fun r hr => callB_up (fun d t st q z => run_up n m d t st q (by omega) z) hr)
  | n + 1, m + 1, d, .branch k a b, st, q, h, e => by
    have ih := fun d t st q z => run_up (P := P) n m d t st q (by omega) z
    rw [run_branch] at e ⊢
    by_cases hk : k = 0
    · rw [if_pos hk] at e ⊢
      rcases seqR_inv e with ⟨st1, h1, h2⟩ | ⟨h1, h2⟩
      · rw [ih _ _ _ _ h1]; exact ih _ _ _ _ h2
      · have h1 := ih _ _ _ _ h1
        rw [h1]
        obtain ⟨o, st2⟩ := q
        match o, h2 with
        | .inl (j + 1), _ => rfl
        | .inr r, _ => rfl
        | .inl 0, h2 => exact absurd rfl h2
    · rw [if_neg hk] at e ⊢
      by_cases hk2 : k % 2 = 1
      · rw [if_pos hk2] at e ⊢
        rcases blkR_inv e with ⟨k, st1, h1, rfl⟩ | ⟨h1, h2⟩
        · rw [ih _ _ _ _ h1]; rfl
        · rw [ih _ _ _ _ h1]
          obtain ⟨o, st2⟩ := q
          match o, h2 with
          | .inl (j + 1), h2 => exact absurd rfl (h2 j)
          | .inr r, _ => rfl
          | .inl 0, h2 => rfl
      · rw [if_neg hk2] at e ⊢
        rcases lopR_inv e with ⟨st1, h1, h2⟩ | ⟨k, st1, h1, rfl⟩ | ⟨h1, h2⟩
        · rw [ih _ _ _ _ h1]; exact ih _ _ _ _ h2
        · rw [ih _ _ _ _ h1]; rfl
        · rw [ih _ _ _ _ h1]
          obtain ⟨o, st2⟩ := q
          match o, h2 with
          | .inl (j + 1), h2 => exact absurd rfl (h2 j)
          | .inr r, _ => rfl
          | .inl 0, h2 => rfl
noncomputable def lim {α : Type} (f : Nat → Option α) : Option α := @dite _ (∃ n q, f n = some q) (Classical.propDecidable _) (fun h => some h.choose_spec.choose) (fun _ => none)
theorem lim_iff {α : Type} {f : Nat → Option α} (hf : ∀ n m q, n ≤ m → f n = some q → f m = some q) (q : α) : lim f = some q ↔ ∃ n, f n = some q := by
  unfold lim
  by_cases h : ∃ n q, f n = some q
  · rw [dif_pos h]
    have h1 := h.choose_spec.choose_spec
    constructor
    · intro e
      exact ⟨_, h1.trans e⟩
    · rintro ⟨n, hn⟩
      rcases Nat.le_total n h.choose with g | g
      · rw [← h1, hf _ _ _ g hn]
      · rw [← hn, hf _ _ _ g h1]
  · rw [dif_neg h]
    exact ⟨fun e => (by cases e), fun ⟨n, hn⟩ => absurd ⟨n, q, hn⟩ h⟩
noncomputable def ev (d : Nat) (t : AT) (st : AS) : Option (AO × AS) := lim (fun n => run PP n d t st)
noncomputable def evC (d : Nat) : CF := fun y as h => lim (fun n => callB PP (run PP n) d y as h)
theorem ev_iff {d : Nat} {t : AT} {st : AS} {q : AO × AS} : ev d t st = some q ↔ ∃ n, run PP n d t st = some q := lim_iff (fun n m q h e => run_up n m d t st q h e) q
theorem callB_le {n m d y : Nat} {as : List Value} {h : AH} {q : (Option Value ⊕ Nat) × AH} (g : n ≤ m) (e : callB PP (run PP n) d y as h = some q) : callB PP (run PP m) d y as h = some q := callB_up (fun d t st q z => run_up n m d t st q g z) e
theorem evC_iff {d y : Nat} {as : List Value} {h : AH} {q : (Option Value ⊕ Nat) × AH} : evC d y as h = some q ↔ ∃ n, callB PP (run PP n) d y as h = some q := lim_iff (fun _ _ _ g e => callB_le g e) q
theorem opt_ext {α : Type} {a b : Option α} (h : ∀ q, a = some q ↔ b = some q) : a = b := by
  cases a with
  | none => cases b with
    | none => rfl
    | some y => exact absurd ((h y).mpr rfl) (fun z => by cases z)
  | some x => exact ((h x).mp rfl).symm
theorem ev_lf {d : Nat} {i : Instr} {ds : List Nat} {st : AS} : ev d (lf i ds) st = leafR (evC d) i ds st := by
  refine opt_ext (fun q => ⟨fun e => ?_, fun e => ?_⟩)
  · obtain ⟨n, hn⟩ := ev_iff.mp e
    cases n with
    | zero => cases hn
    | succ n =>
      rw [run_leaf] at hn
      obtain ⟨y, as, hh, h1⟩ := leaf_one hn
      exact h1 _ (fun r hr => evC_iff.mpr ⟨n, hr⟩)
  · obtain ⟨y, as, hh, h1⟩ := leaf_one e
    cases hc : evC d y as hh with
    | none =>
      refine ev_iff.mpr ⟨1, ?_⟩
      rw [run_leaf]
      exact h1 _ (fun r hr => by rw [hc] at hr; cases hr)
    | some r0 =>
      obtain ⟨n, hn⟩ := evC_iff.mp hc
      refine ev_iff.mpr ⟨n + 1, ?_⟩
      rw [run_leaf]
      exact h1 _ (fun r hr => by rw [hc] at hr; cases hr; exact hn)
theorem ev_sq {d : Nat} {a b : AT} {st : AS} : ev d (sq a b) st = seqR (ev d b) (ev d a st) := by
  refine opt_ext (fun q => ⟨fun e => ?_, fun e => ?_⟩)
  · obtain ⟨n, hn⟩ := ev_iff.mp e
    cases n with
    | zero => cases hn
    | succ n =>
      rw [run_seq] at hn
      rcases seqR_inv hn with ⟨st1, h1, h2⟩ | ⟨h1, h2⟩
      · rw [ev_iff.mpr ⟨n, h1⟩]; exact ev_iff.mpr ⟨n, h2⟩
      · rw [ev_iff.mpr ⟨n, h1⟩]
        obtain ⟨o, st2⟩ := q
        match o, h2 with
        | .inl (j + 1), _ => rfl
        | .inr r, _ => rfl
        | .inl 0, h2 => exact absurd rfl h2
  · rcases seqR_inv e with ⟨st1, h1, h2⟩ | ⟨h1, h2⟩
    · obtain ⟨n, hn⟩ := ev_iff.mp h1
      obtain ⟨m, hm⟩ := ev_iff.mp h2
      refine ev_iff.mpr ⟨max n m + 1, ?_⟩
      rw [run_seq, run_up _ _ _ _ _ _ (Nat.le_max_left n m) hn]
      exact run_up _ _ _ _ _ _ (Nat.le_max_right n m) hm
    · obtain ⟨n, hn⟩ := ev_iff.mp h1
      refine ev_iff.mpr ⟨n + 1, ?_⟩
      rw [run_seq, hn]
      obtain ⟨o, st2⟩ := q
      match o, h2 with
      | .inl (j + 1), _ => rfl
      | .inr r, _ => rfl
      | .inl 0, h2 => exact absurd rfl h2
theorem ev_bk {d e : Nat} {a : AT} {st : AS} : ev d (bk e a) st = blkR (ev d a st) := by
  refine opt_ext (fun q => ⟨fun z => ?_, fun z => ?_⟩)
  · obtain ⟨n, hn⟩ := ev_iff.mp z
    cases n with
    | zero => cases hn
    | succ n =>
      rw [run_blk] at hn
      rcases blkR_inv hn with ⟨k, st1, h1, rfl⟩ | ⟨h1, h2⟩
      · rw [ev_iff.mpr ⟨n, h1⟩]; rfl
      · rw [ev_iff.mpr ⟨n, h1⟩]
        obtain ⟨o, st2⟩ := q
        match o, h2 with
        | .inl (j + 1), h2 => exact absurd rfl (h2 j)
        | .inr r, _ => rfl
        | .inl 0, h2 => rfl
  · rcases blkR_inv z with ⟨k, st1, h1, rfl⟩ | ⟨h1, h2⟩
    · obtain ⟨n, hn⟩ := ev_iff.mp h1
      exact ev_iff.mpr ⟨n + 1, by rw [run_blk, hn]; rfl⟩
    · obtain ⟨n, hn⟩ := ev_iff.mp h1
      refine ev_iff.mpr ⟨n + 1, ?_⟩
      rw [run_blk, hn]
      obtain ⟨o, st2⟩ := q
      match o, h2 with
      | .inl (j + 1), h2 => exact absurd rfl (h2 j)
      | .inr r, _ => rfl
      | .inl 0, h2 => rfl
theorem ev_lp {d e : Nat} {a : AT} {st : AS} : ev d (lp e a) st = lopR (ev d (lp e a)) (ev d a st) := by
  refine opt_ext (fun q => ⟨fun z => ?_, fun z => ?_⟩)
  · obtain ⟨n, hn⟩ := ev_iff.mp z
    cases n with
    | zero => cases hn
    | succ n =>
      rw [run_lop] at hn
      rcases lopR_inv hn with ⟨st1, h1, h2⟩ | ⟨k, st1, h1, rfl⟩ | ⟨h1, h2⟩
      · rw [ev_iff.mpr ⟨n, h1⟩]; exact ev_iff.mpr ⟨n, h2⟩
      · rw [ev_iff.mpr ⟨n, h1⟩]; rfl
      · rw [ev_iff.mpr ⟨n, h1⟩]
        obtain ⟨o, st2⟩ := q
        match o, h2 with
        | .inl (j + 1), h2 => exact absurd rfl (h2 j)
        | .inr r, _ => rfl
        | .inl 0, h2 => rfl
  · rcases lopR_inv z with ⟨st1, h1, h2⟩ | ⟨k, st1, h1, rfl⟩ | ⟨h1, h2⟩
    · obtain ⟨n, hn⟩ := ev_iff.mp h1
      obtain ⟨m, hm⟩ := ev_iff.mp h2
      refine ev_iff.mpr ⟨max n m + 1, ?_⟩
      rw [run_lop, run_up _ _ _ _ _ _ (Nat.le_max_left n m) hn]
      exact run_up _ _ _ _ _ _ (Nat.le_max_right n m) hm
    · obtain ⟨n, hn⟩ := ev_iff.mp h1
      exact ev_iff.mpr ⟨n + 1, by rw [run_lop, hn]; rfl⟩
    · obtain ⟨n, hn⟩ := ev_iff.mp h1
      refine ev_iff.mpr ⟨n + 1, ?_⟩
      rw [run_lop, hn]
      obtain ⟨o, st2⟩ := q
      match o, h2 with
      | .inl (j + 1), h2 => exact absurd rfl (h2 j)
      | .inr r, _ => rfl
      | .inl 0, h2 => rfl
def retR (cs : List (Nat × Nat)) (th : Bool) (r : Option (AO × AS)) : Option ((Option Value ⊕ Nat) × AH) := match r with
  | some (.inr r, (_, _, h')) => thrB th (ctch cs r) h'
  | _ => none
theorem evC_eq {d y n : Nat} {body : AT} {cs : List (Nat × Nat)} {th : Bool} {as : List Value} {h : AH} (hd : 9 ≤ d) (hP : PP y = some (n, body, cs, th)) (hn : (mkS as).length ≤ n) : evC d y as h = retR cs th (ev (d - 1) body (mkL as n, [], h)) := by
  have key : ∀ k, callB PP (run PP k) d y as h = retR cs th (run PP k (d - 1) body (mkL as n, [], h)) := fun k => by
    unfold callB
    rw [if_neg (by omega), hP]
    simp only [if_pos hn]
    rfl
  refine opt_ext (fun q => ⟨fun e => ?_, fun e => ?_⟩)
  · obtain ⟨k, hk⟩ := evC_iff.mp e
    rw [key] at hk
    cases hr : run PP k (d - 1) body (mkL as n, [], h) with
    | none => rw [hr] at hk; cases hk
    | some x => rw [hr] at hk; rw [ev_iff.mpr ⟨k, hr⟩]; exact hk
  · cases hr : ev (d - 1) body (mkL as n, [], h) with
    | none => rw [hr] at e; cases e
    | some x =>
      rw [hr] at e
      obtain ⟨k, hk⟩ := ev_iff.mp hr
      exact evC_iff.mpr ⟨k, by rw [key, hk]; exact e⟩
/-! ===== sequences, blocks, loops: what comes out ===== -/
theorem sq0 {f : AS → Option (AO × AS)} {st : AS} : seqR f (some (.inl 0, st)) = f st := rfl
theorem sq1 {f : AS → Option (AO × AS)} {st : AS} {k : Nat} : seqR f (some (.inl (k + 1), st)) = some (.inl (k + 1), st) := rfl
theorem sq2 {f : AS → Option (AO × AS)} {st : AS} {r : Option Value ⊕ Nat} : seqR f (some (.inr r, st)) = some (.inr r, st) := rfl
theorem bk0 {st : AS} : blkR (some (.inl 0, st)) = some (.inl 0, st) := rfl
theorem bk1 {st : AS} {k : Nat} : blkR (some (.inl (k + 1), st)) = some (.inl k, st) := rfl
theorem bk2 {st : AS} {r : Option Value ⊕ Nat} : blkR (some (.inr r, st)) = some (.inr r, st) := rfl
theorem lo0 {f : AS → Option (AO × AS)} {st : AS} : lopR f (some (.inl 0, st)) = some (.inl 0, st) := rfl
theorem lo1 {f : AS → Option (AO × AS)} {st : AS} : lopR f (some (.inl 1, st)) = f st := rfl
theorem lo2 {f : AS → Option (AO × AS)} {st : AS} {k : Nat} : lopR f (some (.inl (k + 2), st)) = some (.inl (k + 1), st) := rfl
theorem lo3 {f : AS → Option (AO × AS)} {st : AS} {r : Option Value ⊕ Nat} : lopR f (some (.inr r, st)) = some (.inr r, st) := rfl
theorem sq_if {f : AS → Option (AO × AS)} {c : Prop} [Decidable c] {x y : Option (AO × AS)} : seqR f (if c then x else y) = if c then seqR f x else seqR f y := by split <;> rfl
theorem bk_if {c : Prop} [Decidable c] {x y : Option (AO × AS)} : blkR (if c then x else y) = if c then blkR x else blkR y := by split <;> rfl
theorem rt_if {cs : List (Nat × Nat)} {th : Bool} {c : Prop} [Decidable c] {x y : Option (AO × AS)} : retR cs th (if c then x else y) = if c then retR cs th x else retR cs th y := by split <;> rfl
theorem cr_if {loc rest : AL} {c : Prop} [Decidable c] {x y : Option ((Option Value ⊕ Nat) × AH)} : callR (if c then x else y) loc rest = if c then callR x loc rest else callR y loc rest := by split <;> rfl
theorem cr1 {v : Value} {h : AH} {loc rest : AL} : callR (some (.inl (some v), h)) loc rest = some (.inl 0, loc, v :: rest, h) := rfl
theorem cr0 {h : AH} {loc rest : AL} : callR (some (.inl none, h)) loc rest = some (.inl 0, loc, rest, h) := rfl
theorem crE {E : Nat} {h : AH} {loc rest : AL} : callR (some (.inr E, h)) loc rest = some (.inr (.inr E), loc, rest, h) := rfl
theorem rt1 {v : Option Value} {loc stk : AL} {h : AH} {cs : List (Nat × Nat)} {th : Bool} : retR cs th (some (.inr (.inl v), loc, stk, h)) = some (.inl v, h) := rfl
theorem rtE {E : Nat} {loc stk : AL} {h : AH} : retR [] true (some (.inr (.inr E), loc, stk, h)) = some (.inr E, h) := rfl
/-- a loop that goes on m times and then leaves -/
theorem ev_for {d e : Nat} {b : AT} (L : Nat → AS) (m : Nat) {o : AO} {X : AS} (hs : ∀ k, k < m → ev d b (L k) = some (.inl 1, L (k + 1))) (hx : ev d b (L m) = some (o, X)) (ho : o ≠ .inl 1) : ev d (lp e b) (L 0) = lopR (fun _ => none) (some (o, X)) := by
  have key : ∀ j, j ≤ m → ev d (lp e b) (L (m - j)) = lopR (fun _ => none) (some (o, X)) := by
    intro j
    induction j with
    | zero =>
      intro _
      rw [ev_lp, Nat.sub_zero, hx]
      match o, ho with
      | .inl 0, _ => rfl
      | .inl 1, ho => exact absurd rfl ho
      | .inl (k + 2), _ => rfl
      | .inr r, _ => rfl
    | succ j ih =>
      intro hj
      rw [ev_lp, hs _ (by omega), lo1, show m - (j + 1) + 1 = m - j by omega]
      exact ih (by omega)
  have := key m (Nat.le_refl m)
  rwa [Nat.sub_self] at this
