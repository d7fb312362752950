/-! ===== what the small machine does, the real one does ===== -/
theorem jdkO_le {y : Nat} {stk : AL} {h : AH} {q : AL × AH} (e : jdkO y stk h = some q) : hle h q.2 := by
  unfold jdkO at e
  split at e
  · split at e
    · split at e
      · cases e; exact hle.rf _
      · cases e
    · cases e
  · split at e
    · split at e
      · cases e; exact hle.rf _
      · cases e
    · cases e
  · split at e
    · split at e
      · split at e
        · cases e
        · cases e; exact hle.rf _
      · cases e
    · cases e
  · split at e
    · split at e
      · cases e; exact hle.rf _
      · cases e
    · cases e
  · split at e
    · split at e
      · cases e; exact hle.rf _
      · cases e
    · cases e
  · split at e
    · split at e
      · cases e; exact hle.rf _
      · cases e
    · cases e
  · cases e
theorem brO_inv {b : Bool} {k : Nat} {st : AS} {q : AO × AS} (e : brO b k st = some q) : (b = true ∧ q = (.inl (k + 1), st)) ∨ (b = false ∧ q = (.inl 0, st)) := by
  unfold brO at e
  split at e
  · rename_i hb; cases e; exact Or.inl ⟨hb, rfl⟩
  · rename_i hb; cases e; exact Or.inr ⟨by simpa using hb, rfl⟩
/-- what a branching, calling, ending instruction does, spelt out -/
def CTL (call : CF) (i : Instr) (ds : List Nat) (st : AS) (q : AO × AS) : Prop := match i with
  | .goto _ => ∃ k, ds = [k] ∧ q = (.inl (k + 1), st)
  | .ifCond c _ => ∃ k loc x r h, ds = [k] ∧ st = (loc, .int x :: r, h) ∧ ((cnd c x 0 = true ∧ q = (.inl (k + 1), loc, r, h)) ∨ (cnd c x 0 = false ∧ q = (.inl 0, loc, r, h)))
  | .if_icmp c _ => ∃ k loc y x r h, ds = [k] ∧ st = (loc, .int y :: .int x :: r, h) ∧ ((cnd c x y = true ∧ q = (.inl (k + 1), loc, r, h)) ∨ (cnd c x y = false ∧ q = (.inl 0, loc, r, h)))
  | .ifnull _ => ∃ k loc r h, ds = [k] ∧ ((st = (loc, .null :: r, h) ∧ q = (.inl (k + 1), loc, r, h)) ∨ (∃ a, st = (loc, .ref a :: r, h) ∧ q = (.inl 0, loc, r, h)))
  | .ifnonnull _ => ∃ k loc r h, ds = [k] ∧ ((st = (loc, .null :: r, h) ∧ q = (.inl 0, loc, r, h)) ∨ (∃ a, st = (loc, .ref a :: r, h) ∧ q = (.inl (k + 1), loc, r, h)))
  | .tableswitch _ lo hi _ => ∃ kd ks loc x r h, ds = kd :: ks ∧ st = (loc, .int x :: r, h) ∧ (((x.toInt < lo ∨ hi < x.toInt) ∧ q = (.inl (kd + 1), loc, r, h)) ∨ (¬ (x.toInt < lo ∨ hi < x.toInt) ∧ ∃ k, ks[(x.toInt - lo).toNat]? = some k ∧ q = (.inl (k + 1), loc, r, h)))
  | .lookupswitch _ ps => ∃ kd ks loc x r h, ds = kd :: ks ∧ st = (loc, .int x :: r, h) ∧ (((ps.toList.map (fun q => q.1)).findIdx? (fun q => q == x.toInt) = none ∧ q = (.inl (kd + 1), loc, r, h)) ∨ (∃ j k, (ps.toList.map (fun q => q.1)).findIdx? (fun q => q == x.toInt) = some j ∧ ks[j]? = some k ∧ q = (.inl (k + 1), loc, r, h)))
  | .ireturn => ∃ loc x h, st = (loc, [.int x], h) ∧ q = (.inr (.inl (some (.int x))), loc, [], h) ∧ (ds = [1] ∨ (ds = [2] ∧ (x = 0 ∨ x = 1)))
  | .lreturn => ∃ loc x h, st = (loc, [.long x], h) ∧ q = (.inr (.inl (some (.long x))), loc, [], h)
  | .return_ => ∃ loc h, st = (loc, [], h) ∧ q = (.inr (.inl none), loc, [], h)
  | .ldc _ => ∃ loc r h, st = (loc, r, h) ∧ ((∃ v, ds = [0, v] ∧ q = (.inl 0, loc, .int (Int32.ofNat v) :: r, h)) ∨ (∃ j, ds = [1, j] ∧ q = (.inl 0, loc, .ref (1500000 + j) :: r, h)))
  | .ldc_w _ => ∃ loc r h v, st = (loc, r, h) ∧ ds = [0, v] ∧ q = (.inl 0, loc, .int (Int32.ofNat v) :: r, h)
  | .ldc2_w _ => ∃ loc r h v, st = (loc, r, h) ∧ ds = [v] ∧ q = (.inl 0, loc, .long (Int64.ofNat v) :: r, h)
  | .athrow => ∃ E loc h, ds = [E] ∧ st = (loc, [], h) ∧ h.2.1 < 1000000 ∧ q = (.inr (.inr E), loc, [], hnew h (.inr (99, [])) 6)
  | .invokevirtual _ => (∃ y n ci loc As b fs rest h, ds = [y, n, ci] ∧ st = (loc, As.reverse ++ .ref b :: rest, h) ∧ As.length = n ∧ oAt h b = some (ci, fs) ∧ rest.length ≤ 4 ∧ callR (call y (.ref b :: As) h) loc rest = some q) ∨ (∃ y loc stk h x, ds = [y] ∧ st = (loc, stk, h) ∧ jdkO y stk h = some x ∧ q = (.inl 0, loc, x.1, x.2))
  | .invokespecial _ => (∃ y n loc As b rest h, ds = [y, n] ∧ st = (loc, As.reverse ++ .ref b :: rest, h) ∧ As.length = n ∧ rest.length ≤ 4 ∧ callR (call y (.ref b :: As) h) loc rest = some q) ∨ (∃ y loc stk h x, ds = [y] ∧ st = (loc, stk, h) ∧ jdkO y stk h = some x ∧ q = (.inl 0, loc, x.1, x.2))
  | .invokestatic _ => (∃ y n loc As rest h, ds = [y, n] ∧ st = (loc, As.reverse ++ rest, h) ∧ As.length = n ∧ rest.length ≤ 4 ∧ callR (call y As h) loc rest = some q) ∨ (∃ y loc stk h x, ds = [y] ∧ st = (loc, stk, h) ∧ jdkO y stk h = some x ∧ q = (.inl 0, loc, x.1, x.2))
  | _ => False
theorem drop_cons_len {α : Type} {l r : List α} {n : Nat} {a : α} (h : l.drop n = a :: r) : n ≤ l.length ∧ l = (l.take n).reverse.reverse ++ a :: r := by
  have h1 : n < l.length := by
    have := congrArg List.length h
    simp at this
    omega
  refine ⟨by omega, ?_⟩
  rw [List.reverse_reverse, ← h, List.take_append_drop]
set_option maxHeartbeats 4000000 in
theorem ctl_inv {call : CF} {i : Instr} {ds : List Nat} {st : AS} {q : AO × AS} (e : ctlR call i ds st = some q) : CTL call i ds st q := by
  unfold ctlR at e
  split at e
  · split at e
    · rename_i k; cases e; exact ⟨k, rfl, rfl⟩
    · cases e
  · split at e
    · rename_i k loc x r h; exact ⟨k, loc, x, r, h, rfl, rfl, brO_inv e⟩
    · cases e
  · split at e
    · rename_i k loc y x r h; exact ⟨k, loc, y, x, r, h, rfl, rfl, brO_inv e⟩
    · cases e
  · split at e
    · rename_i k loc r h; cases e; exact ⟨k, loc, r, h, rfl, Or.inl ⟨rfl, rfl⟩⟩
    · rename_i k loc a r h; cases e; exact ⟨k, loc, r, h, rfl, Or.inr ⟨a, rfl, rfl⟩⟩
    · cases e
  · split at e
    · rename_i k loc r h; cases e; exact ⟨k, loc, r, h, rfl, Or.inl ⟨rfl, rfl⟩⟩
    · rename_i k loc a r h; cases e; exact ⟨k, loc, r, h, rfl, Or.inr ⟨a, rfl, rfl⟩⟩
    · cases e
  · split at e
    · rename_i kd ks loc x r h
      split at e
      · rename_i hx; cases e; exact ⟨kd, ks, loc, x, r, h, rfl, rfl, Or.inl ⟨hx, rfl⟩⟩
      · rename_i hx
        split at e
        · rename_i k hk; cases e; exact ⟨kd, ks, loc, x, r, h, rfl, rfl, Or.inr ⟨hx, k, hk, rfl⟩⟩
        · cases e
    · cases e
  · split at e
    · rename_i kd ks loc x r h
      split at e
      · rename_i hx; cases e; exact ⟨kd, ks, loc, x, r, h, rfl, rfl, Or.inl ⟨hx, rfl⟩⟩
      · rename_i j hx
        split at e
        · rename_i k hk; cases e; exact ⟨kd, ks, loc, x, r, h, rfl, rfl, Or.inr ⟨j, k, hx, hk, rfl⟩⟩
        · cases e
    · cases e
  · split at e
    · rename_i loc x h; cases e; exact ⟨loc, x, h, rfl, rfl, Or.inl rfl⟩
    · rename_i loc x h
      split at e
      · rename_i hx; cases e; exact ⟨loc, x, h, rfl, rfl, Or.inr ⟨rfl, hx⟩⟩
      · cases e
    · cases e
  · split at e
    · rename_i loc x h; cases e; exact ⟨loc, x, h, rfl, rfl⟩
    · cases e
  · split at e
    · rename_i loc h; cases e; exact ⟨loc, h, rfl, rfl⟩
    · cases e
  · split at e
    · rename_i v loc r h; cases e; exact ⟨loc, r, h, rfl, Or.inl ⟨v, rfl, rfl⟩⟩
    · rename_i v loc r h; cases e; exact ⟨loc, r, h, rfl, Or.inr ⟨v, rfl, rfl⟩⟩
    · cases e
  · split at e
    · rename_i v loc r h; cases e; exact ⟨loc, r, h, v, rfl, rfl, rfl⟩
    · cases e
  · split at e
    · rename_i v loc r h; cases e; exact ⟨loc, r, h, v, rfl, rfl, rfl⟩
    · cases e
  · split at e
    · rename_i E loc h
      split at e
      · rename_i hh; cases e; exact ⟨E, loc, h, rfl, rfl, hh, rfl⟩
      · cases e
    · cases e
  · split at e
    · rename_i y n ci loc stk h
      split at e
      · rename_i b rest hd
        split at e
        · rename_i c fs ho
          split at e
          · rename_i hc
            obtain ⟨h1, h2⟩ := drop_cons_len hd
            obtain ⟨rfl, hc2⟩ := hc
            exact Or.inl ⟨y, n, c, loc, (stk.take n).reverse, b, fs, rest, h, rfl, by rw [← h2], by simp; omega, ho, hc2, e⟩
          · cases e
        · cases e
      · cases e
    · rename_i y loc stk h
      split at e
      · rename_i x hx; cases e; exact Or.inr ⟨y, loc, stk, h, x, rfl, rfl, hx, rfl⟩
      · cases e
    · cases e
  · split at e
    · rename_i y n loc stk h
      split at e
      · rename_i b rest hd
        split at e
        · rename_i hc
          obtain ⟨h1, h2⟩ := drop_cons_len hd
          exact Or.inl ⟨y, n, loc, (stk.take n).reverse, b, rest, h, rfl, by rw [← h2], by simp; omega, hc, e⟩
        · cases e
      · cases e
    · rename_i y loc stk h
      split at e
      · rename_i x hx; cases e; exact Or.inr ⟨y, loc, stk, h, x, rfl, rfl, hx, rfl⟩
      · cases e
    · cases e
  · split at e
    · rename_i y n loc stk h
      split at e
      · rename_i hc
        exact Or.inl ⟨y, n, loc, (stk.take n).reverse, stk.drop n, h, rfl, by rw [List.reverse_reverse, List.take_append_drop], by have := hc.1; simp; omega, hc.2, e⟩
      · cases e
    · rename_i y loc stk h
      split at e
      · rename_i x hx; cases e; exact Or.inr ⟨y, loc, stk, h, x, rfl, rfl, hx, rfl⟩
      · cases e
    · cases e
  · cases e
