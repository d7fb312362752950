/-! ===== the law's grammar, tied together ===== -/
theorem lwG_0 {res : MM → Prop} {M : MM} {tx : Nat → Nat} {len o a : Nat} {l : TK} : lwG res M tx len o l a (.inl (9, 9)) := by
  refine ⟨fun l1 e hx => (by cases hx), fun k p hx hk => ?_⟩
  cases hx
  omega
theorem lgr_all {len : Nat} {tx : Nat → Nat} (hl5 : len ≤ 150) : ∀ (f o : Nat), o ≤ 6 → ∀ (l : TK) (a : Nat) (M : MM), MR M tx len a → LW M l → l.1 ≤ a → fi M 53 8 = nI o →
    (∀ d, 50 ≤ d + 3 * o → lwC d 186 M tx len o l a (lwP tx len f 0 o l a)) ∧ (∀ d, 49 ≤ d + 3 * o → lwC d 187 M tx len o l a (lwP tx len f 1 o l a)) ∧ (∀ d, 48 ≤ d + 3 * o → lwC d 189 M tx len o l a (lwP tx len f 2 o l a)) ∧
    (∀ d, 49 ≤ d + 3 * o → lwG (fun N => Er (ev d (sq (bk 58 t_X10_sum_l4) (lf (.return_) [])) ([.ref 53, .retAddr 0], [], toH M)) (.inl none) (toH N)) M tx len o l a (lwP tx len f 3 o l a)) ∧
    (∀ d, 48 ≤ d + 3 * o → lwG (fun N => Er (ev d (sq (bk 58 t_X10_product_l4) (lf (.return_) [])) ([.ref 53, .retAddr 0], [], toH M)) (.inl none) (toH N)) M tx len o l a (lwP tx len f 4 o l a)) := by
  intro f
  induction f with
  | zero =>
    intro o ho6 l a M hR hW hla ho
    exact ⟨fun d _ => lwG_0, fun d _ => lwG_0, fun d _ => lwG_0, fun d _ => lwG_0, fun d _ => lwG_0⟩
  | succ f ih =>
    intro o ho6 l a M hR hW hla ho
    refine ⟨fun d hd => ?_, fun d hd => ?_, fun d hd => ?_, fun d hd => ?_, fun d hd => ?_⟩
    · exact lgr_0 hR hW hla ho (by omega) ((ih o ho6 l a M hR hW hla ho).2.1 (d - 1) (by omega)) (fun l a M h1 h2 h3 h4 => (ih o ho6 l a M h1 h2 h3 h4).2.2.2.1 (d - 1) (by omega))
    · exact lgr_1 hR hW hla ho (by omega) ((ih o ho6 l a M hR hW hla ho).2.2.1 (d - 1) (by omega)) (fun l a M h1 h2 h3 h4 => (ih o ho6 l a M h1 h2 h3 h4).2.2.2.2 (d - 1) (by omega))
    · exact lgr_2 hl5 hR hW hla ho ho6 (by omega) (fun hlt l a M h1 h2 h3 h4 => (ih (o + 1) (by omega) l a M h1 h2 h3 h4).1 (d - 1) (by omega))
    · exact lgr_3 hl5 hR hW hla ho (by omega) (fun l a M h1 h2 h3 h4 => (ih o ho6 l a M h1 h2 h3 h4).2.1 d (by omega)) (fun l a M h1 h2 h3 h4 => (ih o ho6 l a M h1 h2 h3 h4).2.2.2.1 d (by omega))
    · exact lgr_4 hl5 hR hW hla ho (by omega) (fun l a M h1 h2 h3 h4 => (ih o ho6 l a M h1 h2 h3 h4).2.2.1 d (by omega)) (fun l a M h1 h2 h3 h4 => (ih o ho6 l a M h1 h2 h3 h4).2.2.2.2 d (by omega))
