/-! ===== the parts of the class, put into its fields ===== -/
theorem k_X0 {d a j : Nat} {M : MM} {f : Nat → Option Nat} {u : Nat → Int32} (hO : isO M 0 8 f u) (hn : nx M = a) (ha0 : 0 < a) (ha : a < 800000) (hl : lnZ M) (hd : 9 ≤ d) : ∃ Q I N, xO M 0 = Q ∧ evC d 0 [.ref a] (toH Q) = some (.inl none, toH I) ∧ cl I 0 = 8 ∧ setR I 0 j (some a) = N ∧ nx N = a + 8 ∧ sl N = sl M + clN 0 + 92 ∧ Gf (fun b => b = 0) M N ∧ isO N 0 8 (va_up f j (some a)) u ∧ lnZ N ∧ isO N a 0 (va_up (va_up (va_up (va_up (va_up (va_up (va_up (fun _ => none) 0 (some (a + 1))) 1 (some (a + 2))) 2 (some (a + 3))) 3 (some (a + 4))) 4 (some (a + 5))) 5 (some (a + 6))) 6 (some (a + 7))) (va_up (va_up (va_up (fun _ => 0) 8 (nI 4)) 9 (nI 1)) 10 (nI 3)) ∧ isA N (a + 1) 20 16 ∧ isA N (a + 2) 20 16 ∧ isA N (a + 3) 20 16 ∧ isA N (a + 4) 20 16 ∧ isA N (a + 5) 20 16 ∧ isA N (a + 6) 20 6 ∧ isA N (a + 7) 20 6 := by
  obtain ⟨Q, q1, q2, q3, q4, q5, q6⟩ := mk_O (M := M) (k := 0) hn hl
  obtain ⟨I, i1, i2, i3, i4, i5, i6, ⟨A0, A1, A2, A3, A4, A5, A6⟩⟩ := i_X0 (d := d) q5 q2 ha q6 hd
  have h0 := (hO.t q4 id).t i2 (by omega)
  obtain ⟨N, r1, r2, r3, r4, r5, r6⟩ := mk_R (M := I) (j := j) (a := a) h0 i6
  refine ⟨Q, I, N, q1, i1, h0.c (by omega), r1, by rw [r2, i3], by rw [r3, i4, q3], ((q4.mono (fun b z => z.elim)).n i2 (by omega)).tr r4, r5, r6, i5.t r4 (by omega), A0.t r4 (by omega), A1.t r4 (by omega), A2.t r4 (by omega), A3.t r4 (by omega), A4.t r4 (by omega), A5.t r4 (by omega), A6.t r4 (by omega)⟩
theorem k_X1 {d a j : Nat} {M : MM} {f : Nat → Option Nat} {u : Nat → Int32} (hO : isO M 0 8 f u) (hn : nx M = a) (ha0 : 0 < a) (ha : a < 800000) (hl : lnZ M) (hd : 9 ≤ d) : ∃ Q I N, xO M 1 = Q ∧ evC d 15 [.ref a] (toH Q) = some (.inl none, toH I) ∧ cl I 0 = 8 ∧ setR I 0 j (some a) = N ∧ nx N = a + 1 ∧ sl N = sl M + clN 1 + 0 ∧ Gf (fun b => b = 0) M N ∧ isO N 0 8 (va_up f j (some a)) u ∧ lnZ N ∧ isO N a 1 (fun _ => none) (fun _ => 0) := by
  obtain ⟨Q, q1, q2, q3, q4, q5, q6⟩ := mk_O (M := M) (k := 1) hn hl
  obtain ⟨I, i1, i2, i3, i4, i5, i6, -⟩ := i_X1 (d := d) q5 q2 ha q6 hd
  have h0 := (hO.t q4 id).t i2 (by omega)
  obtain ⟨N, r1, r2, r3, r4, r5, r6⟩ := mk_R (M := I) (j := j) (a := a) h0 i6
  refine ⟨Q, I, N, q1, i1, h0.c (by omega), r1, by rw [r2, i3], by rw [r3, i4, q3], ((q4.mono (fun b z => z.elim)).n i2 (by omega)).tr r4, r5, r6, i5.t r4 (by omega)⟩
theorem k_X2 {d a j : Nat} {M : MM} {f : Nat → Option Nat} {u : Nat → Int32} (hO : isO M 0 8 f u) (hn : nx M = a) (ha0 : 0 < a) (ha : a < 800000) (hl : lnZ M) (hd : 9 ≤ d) : ∃ Q I N, xO M 2 = Q ∧ evC d 19 [.ref a] (toH Q) = some (.inl none, toH I) ∧ cl I 0 = 8 ∧ setR I 0 j (some a) = N ∧ nx N = a + 3 ∧ sl N = sl M + clN 2 + 20 ∧ Gf (fun b => b = 0) M N ∧ isO N 0 8 (va_up f j (some a)) u ∧ lnZ N ∧ isO N a 2 (va_up (va_up (fun _ => none) 0 (some (a + 1))) 1 (some (a + 2))) (fun _ => 0) ∧ isA N (a + 1) 20 10 ∧ isA N (a + 2) 20 10 := by
  obtain ⟨Q, q1, q2, q3, q4, q5, q6⟩ := mk_O (M := M) (k := 2) hn hl
  obtain ⟨I, i1, i2, i3, i4, i5, i6, ⟨A0, A1⟩⟩ := i_X2 (d := d) q5 q2 ha q6 hd
  have h0 := (hO.t q4 id).t i2 (by omega)
  obtain ⟨N, r1, r2, r3, r4, r5, r6⟩ := mk_R (M := I) (j := j) (a := a) h0 i6
  refine ⟨Q, I, N, q1, i1, h0.c (by omega), r1, by rw [r2, i3], by rw [r3, i4, q3], ((q4.mono (fun b z => z.elim)).n i2 (by omega)).tr r4, r5, r6, i5.t r4 (by omega), A0.t r4 (by omega), A1.t r4 (by omega)⟩
theorem k_X3 {d a j : Nat} {M : MM} {f : Nat → Option Nat} {u : Nat → Int32} (hO : isO M 0 8 f u) (hn : nx M = a) (ha0 : 0 < a) (ha : a < 800000) (hl : lnZ M) (hd : 9 ≤ d) : ∃ Q I N, xO M 3 = Q ∧ evC d 27 [.ref a] (toH Q) = some (.inl none, toH I) ∧ cl I 0 = 8 ∧ setR I 0 j (some a) = N ∧ nx N = a + 5 ∧ sl N = sl M + clN 3 + 58 ∧ Gf (fun b => b = 0) M N ∧ isO N 0 8 (va_up f j (some a)) u ∧ lnZ N ∧ isO N a 3 (va_up (va_up (va_up (va_up (fun _ => none) 0 (some (a + 1))) 1 (some (a + 2))) 2 (some (a + 3))) 3 (some (a + 4))) (fun _ => 0) ∧ isA N (a + 1) 20 16 ∧ isA N (a + 2) 20 16 ∧ isA N (a + 3) 20 16 ∧ isA N (a + 4) 20 10 := by
  obtain ⟨Q, q1, q2, q3, q4, q5, q6⟩ := mk_O (M := M) (k := 3) hn hl
  obtain ⟨I, i1, i2, i3, i4, i5, i6, ⟨A0, A1, A2, A3⟩⟩ := i_X3 (d := d) q5 q2 ha q6 hd
  have h0 := (hO.t q4 id).t i2 (by omega)
  obtain ⟨N, r1, r2, r3, r4, r5, r6⟩ := mk_R (M := I) (j := j) (a := a) h0 i6
  refine ⟨Q, I, N, q1, i1, h0.c (by omega), r1, by rw [r2, i3], by rw [r3, i4, q3], ((q4.mono (fun b z => z.elim)).n i2 (by omega)).tr r4, r5, r6, i5.t r4 (by omega), A0.t r4 (by omega), A1.t r4 (by omega), A2.t r4 (by omega), A3.t r4 (by omega)⟩
theorem k_X4 {d a j : Nat} {M : MM} {f : Nat → Option Nat} {u : Nat → Int32} (hO : isO M 0 8 f u) (hn : nx M = a) (ha0 : 0 < a) (ha : a < 800000) (hl : lnZ M) (hd : 9 ≤ d) : ∃ Q I N, xO M 4 = Q ∧ evC d 44 [.ref a] (toH Q) = some (.inl none, toH I) ∧ cl I 0 = 8 ∧ setR I 0 j (some a) = N ∧ nx N = a + 4 ∧ sl N = sl M + clN 4 + 134 ∧ Gf (fun b => b = 0) M N ∧ isO N 0 8 (va_up f j (some a)) u ∧ lnZ N ∧ isO N a 4 (va_up (va_up (va_up (fun _ => none) 0 (some (a + 1))) 1 (some (a + 2))) 2 (some (a + 3))) (fun _ => 0) ∧ isA N (a + 1) 20 6 ∧ isA N (a + 2) 20 64 ∧ isA N (a + 3) 20 64 := by
  obtain ⟨Q, q1, q2, q3, q4, q5, q6⟩ := mk_O (M := M) (k := 4) hn hl
  obtain ⟨I, i1, i2, i3, i4, i5, i6, ⟨A0, A1, A2⟩⟩ := i_X4 (d := d) q5 q2 ha q6 hd
  have h0 := (hO.t q4 id).t i2 (by omega)
  obtain ⟨N, r1, r2, r3, r4, r5, r6⟩ := mk_R (M := I) (j := j) (a := a) h0 i6
  refine ⟨Q, I, N, q1, i1, h0.c (by omega), r1, by rw [r2, i3], by rw [r3, i4, q3], ((q4.mono (fun b z => z.elim)).n i2 (by omega)).tr r4, r5, r6, i5.t r4 (by omega), A0.t r4 (by omega), A1.t r4 (by omega), A2.t r4 (by omega)⟩
theorem k_X6 {d a j : Nat} {M : MM} {f : Nat → Option Nat} {u : Nat → Int32} (hO : isO M 0 8 f u) (hn : nx M = a) (ha0 : 0 < a) (ha : a < 800000) (hl : lnZ M) (hd : 9 ≤ d) : ∃ Q I N, xO M 5 = Q ∧ evC d 57 [.ref a] (toH Q) = some (.inl none, toH I) ∧ cl I 0 = 8 ∧ setR I 0 j (some a) = N ∧ nx N = a + 4 ∧ sl N = sl M + clN 5 + 450 ∧ Gf (fun b => b = 0) M N ∧ isO N 0 8 (va_up f j (some a)) u ∧ lnZ N ∧ isO N a 5 (va_up (va_up (va_up (fun _ => none) 0 (some (a + 1))) 1 (some (a + 2))) 2 (some (a + 3))) (fun _ => 0) ∧ isA N (a + 1) 20 150 ∧ isA N (a + 2) 20 150 ∧ isA N (a + 3) 20 150 := by
  obtain ⟨Q, q1, q2, q3, q4, q5, q6⟩ := mk_O (M := M) (k := 5) hn hl
  obtain ⟨I, i1, i2, i3, i4, i5, i6, ⟨A0, A1, A2⟩⟩ := i_X6 (d := d) q5 q2 ha q6 hd
  have h0 := (hO.t q4 id).t i2 (by omega)
  obtain ⟨N, r1, r2, r3, r4, r5, r6⟩ := mk_R (M := I) (j := j) (a := a) h0 i6
  refine ⟨Q, I, N, q1, i1, h0.c (by omega), r1, by rw [r2, i3], by rw [r3, i4, q3], ((q4.mono (fun b z => z.elim)).n i2 (by omega)).tr r4, r5, r6, i5.t r4 (by omega), A0.t r4 (by omega), A1.t r4 (by omega), A2.t r4 (by omega)⟩
theorem k_X7 {d a j : Nat} {M : MM} {f : Nat → Option Nat} {u : Nat → Int32} (hO : isO M 0 8 f u) (hn : nx M = a) (ha0 : 0 < a) (ha : a < 800000) (hl : lnZ M) (hd : 9 ≤ d) : ∃ Q I N, xO M 6 = Q ∧ evC d 66 [.ref a] (toH Q) = some (.inl none, toH I) ∧ cl I 0 = 8 ∧ setR I 0 j (some a) = N ∧ nx N = a + 4 ∧ sl N = sl M + clN 6 + 308 ∧ Gf (fun b => b = 0) M N ∧ isO N 0 8 (va_up f j (some a)) u ∧ lnZ N ∧ isO N a 6 (va_up (va_up (va_up (fun _ => none) 0 (some (a + 1))) 1 (some (a + 2))) 2 (some (a + 3))) (fun _ => 0) ∧ isA N (a + 1) 20 8 ∧ isA N (a + 2) 20 150 ∧ isA N (a + 3) 20 150 := by
  obtain ⟨Q, q1, q2, q3, q4, q5, q6⟩ := mk_O (M := M) (k := 6) hn hl
  obtain ⟨I, i1, i2, i3, i4, i5, i6, ⟨A0, A1, A2⟩⟩ := i_X7 (d := d) q5 q2 ha q6 hd
  have h0 := (hO.t q4 id).t i2 (by omega)
  obtain ⟨N, r1, r2, r3, r4, r5, r6⟩ := mk_R (M := I) (j := j) (a := a) h0 i6
  refine ⟨Q, I, N, q1, i1, h0.c (by omega), r1, by rw [r2, i3], by rw [r3, i4, q3], ((q4.mono (fun b z => z.elim)).n i2 (by omega)).tr r4, r5, r6, i5.t r4 (by omega), A0.t r4 (by omega), A1.t r4 (by omega), A2.t r4 (by omega)⟩
theorem k_X8 {d a j : Nat} {M : MM} {f : Nat → Option Nat} {u : Nat → Int32} (hO : isO M 0 8 f u) (hn : nx M = a) (ha0 : 0 < a) (ha : a < 800000) (hl : lnZ M) (hd : 9 ≤ d) : ∃ Q I N, xO M 7 = Q ∧ evC d 81 [.ref a] (toH Q) = some (.inl none, toH I) ∧ cl I 0 = 8 ∧ setR I 0 j (some a) = N ∧ nx N = a + 2 ∧ sl N = sl M + clN 7 + 600 ∧ Gf (fun b => b = 0) M N ∧ isO N 0 8 (va_up f j (some a)) u ∧ lnZ N ∧ isO N a 7 (va_up (fun _ => none) 0 (some (a + 1))) (va_up (fun _ => 0) 6 (-1)) ∧ isA N (a + 1) 22 600 := by
  obtain ⟨Q, q1, q2, q3, q4, q5, q6⟩ := mk_O (M := M) (k := 7) hn hl
  obtain ⟨I, i1, i2, i3, i4, i5, i6, A0⟩ := i_X8 (d := d) q5 q2 ha q6 hd
  have h0 := (hO.t q4 id).t i2 (by omega)
  obtain ⟨N, r1, r2, r3, r4, r5, r6⟩ := mk_R (M := I) (j := j) (a := a) h0 i6
  refine ⟨Q, I, N, q1, i1, h0.c (by omega), r1, by rw [r2, i3], by rw [r3, i4, q3], ((q4.mono (fun b z => z.elim)).n i2 (by omega)).tr r4, r5, r6, i5.t r4 (by omega), A0.t r4 (by omega)⟩
