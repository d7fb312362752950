/-! ===== the cells that the constructors make (written by wip/base.py) ===== -/
def rowsL : List (Nat × Nat × Nat × Nat) := [(60, 61, 16, 5), (77, 78, 16, 5), (94, 95, 160, 2), (255, 256, 160, 2), (416, 417, 10, 2), (427, 428, 10, 2), (440, 441, 80, 3), (523, 524, 16, 83), (540, 541, 3, 1412)]
def refsL : List (Nat × Nat × Nat) := [(1, 0, 2), (0, 0, 1), (3, 0, 4), (3, 1, 5), (3, 2, 6), (0, 1, 3), (0, 2, 7), (8, 0, 9), (8, 1, 10), (8, 2, 11), (0, 3, 8), (12, 0, 13), (12, 1, 14), (12, 2, 15), (12, 3, 16), (0, 4, 12), (0, 5, 17), (18, 0, 19), (18, 1, 20), (18, 2, 21), (18, 3, 22), (18, 4, 23), (18, 5, 24), (18, 6, 25), (26, 0, 27), (26, 1, 28), (26, 2, 29), (26, 3, 30), (26, 4, 31), (26, 5, 32), (26, 6, 33), (34, 0, 35), (34, 1, 36), (34, 2, 37), (38, 0, 39), (38, 1, 40), (38, 2, 41), (42, 0, 43), (42, 1, 44), (45, 0, 46), (45, 1, 47), (48, 0, 49), (48, 1, 50), (48, 2, 51), (48, 3, 52), (53, 9, 54), (53, 10, 55), (53, 11, 56), (53, 12, 57), (53, 13, 58), (53, 14, 59), (53, 15, 60), (53, 16, 77), (53, 19, 94), (53, 20, 255), (53, 21, 416), (53, 22, 427), (53, 23, 438), (53, 24, 439), (53, 25, 440), (53, 27, 521), (53, 28, 522), (53, 29, 523), (53, 30, 540), (53, 41, 544), (53, 42, 545), (53, 43, 546)]
def cellsL : List (Nat × Nat × Nat) := [(0, 8, 0), (1, 7, 0), (2, 22, 600), (3, 5, 0), (4, 20, 150), (5, 20, 150), (6, 20, 150), (7, 1, 0), (8, 4, 0), (9, 20, 6), (10, 20, 64), (11, 20, 64), (12, 3, 0), (13, 20, 16), (14, 20, 16), (15, 20, 16), (16, 20, 10), (17, 24, 3), (18, 0, 0), (19, 20, 16), (20, 20, 16), (21, 20, 16), (22, 20, 16), (23, 20, 16), (24, 20, 6), (25, 20, 6), (26, 0, 0), (27, 20, 16), (28, 20, 16), (29, 20, 16), (30, 20, 16), (31, 20, 16), (32, 20, 6), (33, 20, 6), (34, 6, 0), (35, 20, 8), (36, 20, 150), (37, 20, 150), (38, 6, 0), (39, 20, 8), (40, 20, 150), (41, 20, 150), (42, 2, 0), (43, 20, 10), (44, 20, 10), (45, 2, 0), (46, 20, 10), (47, 20, 10), (48, 3, 0), (49, 20, 16), (50, 20, 16), (51, 20, 16), (52, 20, 10), (53, 9, 0), (54, 20, 600), (55, 20, 2), (56, 20, 4), (57, 20, 4), (58, 20, 6), (59, 20, 6), (60, 23, 16), (77, 23, 16), (94, 23, 160), (255, 23, 160), (416, 23, 10), (427, 23, 10), (438, 20, 160), (439, 20, 8), (440, 23, 80), (521, 20, 83), (522, 20, 83), (523, 23, 16), (540, 23, 3), (544, 21, 11), (545, 20, 6), (546, 20, 6), (547, 21, 1)]
/-- every cell that the constructors made has its kind, its length, its references -/
def SH (M : MM) : Prop := 548 ≤ nx M ∧ (∀ q ∈ cellsL, sh M q.1 = q.2.1 ∧ ln M q.1 = q.2.2) ∧ (∀ q ∈ refsL, fr M q.1 q.2.1 = some q.2.2) ∧ (∀ q ∈ rowsL, ∀ i, i < q.2.2.1 → aq M q.1 i = some (q.2.1 + i) ∧ sh M (q.2.1 + i) = 20 ∧ ln M (q.2.1 + i) = q.2.2.2)
theorem SH_setI (M : MM) (a k : Nat) (x : Int32) : SH (setI M a k x) = SH M := rfl
theorem SH_setA (M : MM) (a : Nat) (f : Nat → Int32) : SH (setA M a f) = SH M := rfl
theorem SH_setL (M : MM) (a : Nat) (f : Nat → Int64) : SH (setL M a f) = SH M := rfl
theorem SH.c {M : MM} {a c l : Nat} (h : SH M) (e : (a, c, l) ∈ cellsL) (ha : a < 548) : cl M a = c := by
  unfold cl
  rw [if_pos ⟨Nat.lt_of_lt_of_le ha h.1, Nat.lt_trans ha (by decide)⟩]
  exact (h.2.1 _ e).1
theorem SH.n {M : MM} {a c l : Nat} (h : SH M) (e : (a, c, l) ∈ cellsL) : ln M a = l := (h.2.1 _ e).2
theorem SH.f {M : MM} {a k b : Nat} (h : SH M) (e : (a, k, b) ∈ refsL) : fr M a k = some b := h.2.2.1 _ e
theorem SH.q {M : MM} {a f N K i : Nat} (h : SH M) (e : (a, f, N, K) ∈ rowsL) (hi : i < N) : aq M a i = some (f + i) := (h.2.2.2 _ e i hi).1
theorem SH.qc {M : MM} {a f N K i : Nat} (h : SH M) (e : (a, f, N, K) ∈ rowsL) (hi : i < N) (hf : f + N ≤ 548) : cl M (f + i) = 20 := by
  unfold cl
  have := h.1
  rw [if_pos ⟨by omega, by omega⟩]
  exact (h.2.2.2 _ e i hi).2.1
theorem SH.qn {M : MM} {a f N K i : Nat} (h : SH M) (e : (a, f, N, K) ∈ rowsL) (hi : i < N) : ln M (f + i) = K := (h.2.2.2 _ e i hi).2.2
theorem C_0 {M : MM} (h : SH M) : cl M 0 = 8 := h.c (List.mem_of_getElem? (i := 0) rfl) (by decide)
theorem C_1 {M : MM} (h : SH M) : cl M 1 = 7 := h.c (List.mem_of_getElem? (i := 1) rfl) (by decide)
theorem C_2 {M : MM} (h : SH M) : cl M 2 = 22 := h.c (List.mem_of_getElem? (i := 2) rfl) (by decide)
theorem N_2 {M : MM} (h : SH M) : ln M 2 = 600 := h.n (List.mem_of_getElem? (i := 2) rfl)
theorem C_3 {M : MM} (h : SH M) : cl M 3 = 5 := h.c (List.mem_of_getElem? (i := 3) rfl) (by decide)
theorem C_4 {M : MM} (h : SH M) : cl M 4 = 20 := h.c (List.mem_of_getElem? (i := 4) rfl) (by decide)
theorem N_4 {M : MM} (h : SH M) : ln M 4 = 150 := h.n (List.mem_of_getElem? (i := 4) rfl)
theorem C_5 {M : MM} (h : SH M) : cl M 5 = 20 := h.c (List.mem_of_getElem? (i := 5) rfl) (by decide)
theorem N_5 {M : MM} (h : SH M) : ln M 5 = 150 := h.n (List.mem_of_getElem? (i := 5) rfl)
theorem C_6 {M : MM} (h : SH M) : cl M 6 = 20 := h.c (List.mem_of_getElem? (i := 6) rfl) (by decide)
theorem N_6 {M : MM} (h : SH M) : ln M 6 = 150 := h.n (List.mem_of_getElem? (i := 6) rfl)
theorem C_7 {M : MM} (h : SH M) : cl M 7 = 1 := h.c (List.mem_of_getElem? (i := 7) rfl) (by decide)
theorem C_8 {M : MM} (h : SH M) : cl M 8 = 4 := h.c (List.mem_of_getElem? (i := 8) rfl) (by decide)
theorem C_9 {M : MM} (h : SH M) : cl M 9 = 20 := h.c (List.mem_of_getElem? (i := 9) rfl) (by decide)
theorem N_9 {M : MM} (h : SH M) : ln M 9 = 6 := h.n (List.mem_of_getElem? (i := 9) rfl)
theorem C_10 {M : MM} (h : SH M) : cl M 10 = 20 := h.c (List.mem_of_getElem? (i := 10) rfl) (by decide)
theorem N_10 {M : MM} (h : SH M) : ln M 10 = 64 := h.n (List.mem_of_getElem? (i := 10) rfl)
theorem C_11 {M : MM} (h : SH M) : cl M 11 = 20 := h.c (List.mem_of_getElem? (i := 11) rfl) (by decide)
theorem N_11 {M : MM} (h : SH M) : ln M 11 = 64 := h.n (List.mem_of_getElem? (i := 11) rfl)
theorem C_12 {M : MM} (h : SH M) : cl M 12 = 3 := h.c (List.mem_of_getElem? (i := 12) rfl) (by decide)
theorem C_13 {M : MM} (h : SH M) : cl M 13 = 20 := h.c (List.mem_of_getElem? (i := 13) rfl) (by decide)
theorem N_13 {M : MM} (h : SH M) : ln M 13 = 16 := h.n (List.mem_of_getElem? (i := 13) rfl)
theorem C_14 {M : MM} (h : SH M) : cl M 14 = 20 := h.c (List.mem_of_getElem? (i := 14) rfl) (by decide)
theorem N_14 {M : MM} (h : SH M) : ln M 14 = 16 := h.n (List.mem_of_getElem? (i := 14) rfl)
theorem C_15 {M : MM} (h : SH M) : cl M 15 = 20 := h.c (List.mem_of_getElem? (i := 15) rfl) (by decide)
theorem N_15 {M : MM} (h : SH M) : ln M 15 = 16 := h.n (List.mem_of_getElem? (i := 15) rfl)
theorem C_16 {M : MM} (h : SH M) : cl M 16 = 20 := h.c (List.mem_of_getElem? (i := 16) rfl) (by decide)
theorem N_16 {M : MM} (h : SH M) : ln M 16 = 10 := h.n (List.mem_of_getElem? (i := 16) rfl)
theorem C_17 {M : MM} (h : SH M) : cl M 17 = 24 := h.c (List.mem_of_getElem? (i := 17) rfl) (by decide)
theorem N_17 {M : MM} (h : SH M) : ln M 17 = 3 := h.n (List.mem_of_getElem? (i := 17) rfl)
theorem C_18 {M : MM} (h : SH M) : cl M 18 = 0 := h.c (List.mem_of_getElem? (i := 18) rfl) (by decide)
theorem C_19 {M : MM} (h : SH M) : cl M 19 = 20 := h.c (List.mem_of_getElem? (i := 19) rfl) (by decide)
theorem N_19 {M : MM} (h : SH M) : ln M 19 = 16 := h.n (List.mem_of_getElem? (i := 19) rfl)
theorem C_20 {M : MM} (h : SH M) : cl M 20 = 20 := h.c (List.mem_of_getElem? (i := 20) rfl) (by decide)
theorem N_20 {M : MM} (h : SH M) : ln M 20 = 16 := h.n (List.mem_of_getElem? (i := 20) rfl)
theorem C_21 {M : MM} (h : SH M) : cl M 21 = 20 := h.c (List.mem_of_getElem? (i := 21) rfl) (by decide)
theorem N_21 {M : MM} (h : SH M) : ln M 21 = 16 := h.n (List.mem_of_getElem? (i := 21) rfl)
theorem C_22 {M : MM} (h : SH M) : cl M 22 = 20 := h.c (List.mem_of_getElem? (i := 22) rfl) (by decide)
theorem N_22 {M : MM} (h : SH M) : ln M 22 = 16 := h.n (List.mem_of_getElem? (i := 22) rfl)
theorem C_23 {M : MM} (h : SH M) : cl M 23 = 20 := h.c (List.mem_of_getElem? (i := 23) rfl) (by decide)
theorem N_23 {M : MM} (h : SH M) : ln M 23 = 16 := h.n (List.mem_of_getElem? (i := 23) rfl)
theorem C_24 {M : MM} (h : SH M) : cl M 24 = 20 := h.c (List.mem_of_getElem? (i := 24) rfl) (by decide)
theorem N_24 {M : MM} (h : SH M) : ln M 24 = 6 := h.n (List.mem_of_getElem? (i := 24) rfl)
theorem C_25 {M : MM} (h : SH M) : cl M 25 = 20 := h.c (List.mem_of_getElem? (i := 25) rfl) (by decide)
theorem N_25 {M : MM} (h : SH M) : ln M 25 = 6 := h.n (List.mem_of_getElem? (i := 25) rfl)
theorem C_26 {M : MM} (h : SH M) : cl M 26 = 0 := h.c (List.mem_of_getElem? (i := 26) rfl) (by decide)
theorem C_27 {M : MM} (h : SH M) : cl M 27 = 20 := h.c (List.mem_of_getElem? (i := 27) rfl) (by decide)
theorem N_27 {M : MM} (h : SH M) : ln M 27 = 16 := h.n (List.mem_of_getElem? (i := 27) rfl)
theorem C_28 {M : MM} (h : SH M) : cl M 28 = 20 := h.c (List.mem_of_getElem? (i := 28) rfl) (by decide)
theorem N_28 {M : MM} (h : SH M) : ln M 28 = 16 := h.n (List.mem_of_getElem? (i := 28) rfl)
theorem C_29 {M : MM} (h : SH M) : cl M 29 = 20 := h.c (List.mem_of_getElem? (i := 29) rfl) (by decide)
theorem N_29 {M : MM} (h : SH M) : ln M 29 = 16 := h.n (List.mem_of_getElem? (i := 29) rfl)
theorem C_30 {M : MM} (h : SH M) : cl M 30 = 20 := h.c (List.mem_of_getElem? (i := 30) rfl) (by decide)
theorem N_30 {M : MM} (h : SH M) : ln M 30 = 16 := h.n (List.mem_of_getElem? (i := 30) rfl)
theorem C_31 {M : MM} (h : SH M) : cl M 31 = 20 := h.c (List.mem_of_getElem? (i := 31) rfl) (by decide)
theorem N_31 {M : MM} (h : SH M) : ln M 31 = 16 := h.n (List.mem_of_getElem? (i := 31) rfl)
theorem C_32 {M : MM} (h : SH M) : cl M 32 = 20 := h.c (List.mem_of_getElem? (i := 32) rfl) (by decide)
theorem N_32 {M : MM} (h : SH M) : ln M 32 = 6 := h.n (List.mem_of_getElem? (i := 32) rfl)
theorem C_33 {M : MM} (h : SH M) : cl M 33 = 20 := h.c (List.mem_of_getElem? (i := 33) rfl) (by decide)
theorem N_33 {M : MM} (h : SH M) : ln M 33 = 6 := h.n (List.mem_of_getElem? (i := 33) rfl)
theorem C_34 {M : MM} (h : SH M) : cl M 34 = 6 := h.c (List.mem_of_getElem? (i := 34) rfl) (by decide)
theorem C_35 {M : MM} (h : SH M) : cl M 35 = 20 := h.c (List.mem_of_getElem? (i := 35) rfl) (by decide)
theorem N_35 {M : MM} (h : SH M) : ln M 35 = 8 := h.n (List.mem_of_getElem? (i := 35) rfl)
theorem C_36 {M : MM} (h : SH M) : cl M 36 = 20 := h.c (List.mem_of_getElem? (i := 36) rfl) (by decide)
theorem N_36 {M : MM} (h : SH M) : ln M 36 = 150 := h.n (List.mem_of_getElem? (i := 36) rfl)
theorem C_37 {M : MM} (h : SH M) : cl M 37 = 20 := h.c (List.mem_of_getElem? (i := 37) rfl) (by decide)
theorem N_37 {M : MM} (h : SH M) : ln M 37 = 150 := h.n (List.mem_of_getElem? (i := 37) rfl)
theorem C_38 {M : MM} (h : SH M) : cl M 38 = 6 := h.c (List.mem_of_getElem? (i := 38) rfl) (by decide)
theorem C_39 {M : MM} (h : SH M) : cl M 39 = 20 := h.c (List.mem_of_getElem? (i := 39) rfl) (by decide)
theorem N_39 {M : MM} (h : SH M) : ln M 39 = 8 := h.n (List.mem_of_getElem? (i := 39) rfl)
theorem C_40 {M : MM} (h : SH M) : cl M 40 = 20 := h.c (List.mem_of_getElem? (i := 40) rfl) (by decide)
theorem N_40 {M : MM} (h : SH M) : ln M 40 = 150 := h.n (List.mem_of_getElem? (i := 40) rfl)
theorem C_41 {M : MM} (h : SH M) : cl M 41 = 20 := h.c (List.mem_of_getElem? (i := 41) rfl) (by decide)
theorem N_41 {M : MM} (h : SH M) : ln M 41 = 150 := h.n (List.mem_of_getElem? (i := 41) rfl)
theorem C_42 {M : MM} (h : SH M) : cl M 42 = 2 := h.c (List.mem_of_getElem? (i := 42) rfl) (by decide)
theorem C_43 {M : MM} (h : SH M) : cl M 43 = 20 := h.c (List.mem_of_getElem? (i := 43) rfl) (by decide)
theorem N_43 {M : MM} (h : SH M) : ln M 43 = 10 := h.n (List.mem_of_getElem? (i := 43) rfl)
theorem C_44 {M : MM} (h : SH M) : cl M 44 = 20 := h.c (List.mem_of_getElem? (i := 44) rfl) (by decide)
theorem N_44 {M : MM} (h : SH M) : ln M 44 = 10 := h.n (List.mem_of_getElem? (i := 44) rfl)
theorem C_45 {M : MM} (h : SH M) : cl M 45 = 2 := h.c (List.mem_of_getElem? (i := 45) rfl) (by decide)
theorem C_46 {M : MM} (h : SH M) : cl M 46 = 20 := h.c (List.mem_of_getElem? (i := 46) rfl) (by decide)
theorem N_46 {M : MM} (h : SH M) : ln M 46 = 10 := h.n (List.mem_of_getElem? (i := 46) rfl)
theorem C_47 {M : MM} (h : SH M) : cl M 47 = 20 := h.c (List.mem_of_getElem? (i := 47) rfl) (by decide)
theorem N_47 {M : MM} (h : SH M) : ln M 47 = 10 := h.n (List.mem_of_getElem? (i := 47) rfl)
theorem C_48 {M : MM} (h : SH M) : cl M 48 = 3 := h.c (List.mem_of_getElem? (i := 48) rfl) (by decide)
theorem C_49 {M : MM} (h : SH M) : cl M 49 = 20 := h.c (List.mem_of_getElem? (i := 49) rfl) (by decide)
theorem N_49 {M : MM} (h : SH M) : ln M 49 = 16 := h.n (List.mem_of_getElem? (i := 49) rfl)
theorem C_50 {M : MM} (h : SH M) : cl M 50 = 20 := h.c (List.mem_of_getElem? (i := 50) rfl) (by decide)
theorem N_50 {M : MM} (h : SH M) : ln M 50 = 16 := h.n (List.mem_of_getElem? (i := 50) rfl)
theorem C_51 {M : MM} (h : SH M) : cl M 51 = 20 := h.c (List.mem_of_getElem? (i := 51) rfl) (by decide)
theorem N_51 {M : MM} (h : SH M) : ln M 51 = 16 := h.n (List.mem_of_getElem? (i := 51) rfl)
theorem C_52 {M : MM} (h : SH M) : cl M 52 = 20 := h.c (List.mem_of_getElem? (i := 52) rfl) (by decide)
theorem N_52 {M : MM} (h : SH M) : ln M 52 = 10 := h.n (List.mem_of_getElem? (i := 52) rfl)
theorem C_53 {M : MM} (h : SH M) : cl M 53 = 9 := h.c (List.mem_of_getElem? (i := 53) rfl) (by decide)
theorem C_54 {M : MM} (h : SH M) : cl M 54 = 20 := h.c (List.mem_of_getElem? (i := 54) rfl) (by decide)
theorem N_54 {M : MM} (h : SH M) : ln M 54 = 600 := h.n (List.mem_of_getElem? (i := 54) rfl)
theorem C_55 {M : MM} (h : SH M) : cl M 55 = 20 := h.c (List.mem_of_getElem? (i := 55) rfl) (by decide)
theorem N_55 {M : MM} (h : SH M) : ln M 55 = 2 := h.n (List.mem_of_getElem? (i := 55) rfl)
theorem C_56 {M : MM} (h : SH M) : cl M 56 = 20 := h.c (List.mem_of_getElem? (i := 56) rfl) (by decide)
theorem N_56 {M : MM} (h : SH M) : ln M 56 = 4 := h.n (List.mem_of_getElem? (i := 56) rfl)
theorem C_57 {M : MM} (h : SH M) : cl M 57 = 20 := h.c (List.mem_of_getElem? (i := 57) rfl) (by decide)
theorem N_57 {M : MM} (h : SH M) : ln M 57 = 4 := h.n (List.mem_of_getElem? (i := 57) rfl)
theorem C_58 {M : MM} (h : SH M) : cl M 58 = 20 := h.c (List.mem_of_getElem? (i := 58) rfl) (by decide)
theorem N_58 {M : MM} (h : SH M) : ln M 58 = 6 := h.n (List.mem_of_getElem? (i := 58) rfl)
theorem C_59 {M : MM} (h : SH M) : cl M 59 = 20 := h.c (List.mem_of_getElem? (i := 59) rfl) (by decide)
theorem N_59 {M : MM} (h : SH M) : ln M 59 = 6 := h.n (List.mem_of_getElem? (i := 59) rfl)
theorem C_60 {M : MM} (h : SH M) : cl M 60 = 23 := h.c (List.mem_of_getElem? (i := 60) rfl) (by decide)
theorem N_60 {M : MM} (h : SH M) : ln M 60 = 16 := h.n (List.mem_of_getElem? (i := 60) rfl)
theorem C_77 {M : MM} (h : SH M) : cl M 77 = 23 := h.c (List.mem_of_getElem? (i := 61) rfl) (by decide)
theorem N_77 {M : MM} (h : SH M) : ln M 77 = 16 := h.n (List.mem_of_getElem? (i := 61) rfl)
theorem C_94 {M : MM} (h : SH M) : cl M 94 = 23 := h.c (List.mem_of_getElem? (i := 62) rfl) (by decide)
theorem N_94 {M : MM} (h : SH M) : ln M 94 = 160 := h.n (List.mem_of_getElem? (i := 62) rfl)
theorem C_255 {M : MM} (h : SH M) : cl M 255 = 23 := h.c (List.mem_of_getElem? (i := 63) rfl) (by decide)
theorem N_255 {M : MM} (h : SH M) : ln M 255 = 160 := h.n (List.mem_of_getElem? (i := 63) rfl)
theorem C_416 {M : MM} (h : SH M) : cl M 416 = 23 := h.c (List.mem_of_getElem? (i := 64) rfl) (by decide)
theorem N_416 {M : MM} (h : SH M) : ln M 416 = 10 := h.n (List.mem_of_getElem? (i := 64) rfl)
theorem C_427 {M : MM} (h : SH M) : cl M 427 = 23 := h.c (List.mem_of_getElem? (i := 65) rfl) (by decide)
theorem N_427 {M : MM} (h : SH M) : ln M 427 = 10 := h.n (List.mem_of_getElem? (i := 65) rfl)
theorem C_438 {M : MM} (h : SH M) : cl M 438 = 20 := h.c (List.mem_of_getElem? (i := 66) rfl) (by decide)
theorem N_438 {M : MM} (h : SH M) : ln M 438 = 160 := h.n (List.mem_of_getElem? (i := 66) rfl)
theorem C_439 {M : MM} (h : SH M) : cl M 439 = 20 := h.c (List.mem_of_getElem? (i := 67) rfl) (by decide)
theorem N_439 {M : MM} (h : SH M) : ln M 439 = 8 := h.n (List.mem_of_getElem? (i := 67) rfl)
theorem C_440 {M : MM} (h : SH M) : cl M 440 = 23 := h.c (List.mem_of_getElem? (i := 68) rfl) (by decide)
theorem N_440 {M : MM} (h : SH M) : ln M 440 = 80 := h.n (List.mem_of_getElem? (i := 68) rfl)
theorem C_521 {M : MM} (h : SH M) : cl M 521 = 20 := h.c (List.mem_of_getElem? (i := 69) rfl) (by decide)
theorem N_521 {M : MM} (h : SH M) : ln M 521 = 83 := h.n (List.mem_of_getElem? (i := 69) rfl)
theorem C_522 {M : MM} (h : SH M) : cl M 522 = 20 := h.c (List.mem_of_getElem? (i := 70) rfl) (by decide)
theorem N_522 {M : MM} (h : SH M) : ln M 522 = 83 := h.n (List.mem_of_getElem? (i := 70) rfl)
theorem C_523 {M : MM} (h : SH M) : cl M 523 = 23 := h.c (List.mem_of_getElem? (i := 71) rfl) (by decide)
theorem N_523 {M : MM} (h : SH M) : ln M 523 = 16 := h.n (List.mem_of_getElem? (i := 71) rfl)
theorem C_540 {M : MM} (h : SH M) : cl M 540 = 23 := h.c (List.mem_of_getElem? (i := 72) rfl) (by decide)
theorem N_540 {M : MM} (h : SH M) : ln M 540 = 3 := h.n (List.mem_of_getElem? (i := 72) rfl)
theorem C_544 {M : MM} (h : SH M) : cl M 544 = 21 := h.c (List.mem_of_getElem? (i := 73) rfl) (by decide)
theorem N_544 {M : MM} (h : SH M) : ln M 544 = 11 := h.n (List.mem_of_getElem? (i := 73) rfl)
theorem C_545 {M : MM} (h : SH M) : cl M 545 = 20 := h.c (List.mem_of_getElem? (i := 74) rfl) (by decide)
theorem N_545 {M : MM} (h : SH M) : ln M 545 = 6 := h.n (List.mem_of_getElem? (i := 74) rfl)
theorem C_546 {M : MM} (h : SH M) : cl M 546 = 20 := h.c (List.mem_of_getElem? (i := 75) rfl) (by decide)
theorem N_546 {M : MM} (h : SH M) : ln M 546 = 6 := h.n (List.mem_of_getElem? (i := 75) rfl)
theorem C_547 {M : MM} (h : SH M) : cl M 547 = 21 := h.c (List.mem_of_getElem? (i := 76) rfl) (by decide)
theorem N_547 {M : MM} (h : SH M) : ln M 547 = 1 := h.n (List.mem_of_getElem? (i := 76) rfl)
theorem F_1_0 {M : MM} (h : SH M) : fr M 1 0 = some 2 := h.f (List.mem_of_getElem? (i := 0) rfl)
theorem F_0_0 {M : MM} (h : SH M) : fr M 0 0 = some 1 := h.f (List.mem_of_getElem? (i := 1) rfl)
theorem F_3_0 {M : MM} (h : SH M) : fr M 3 0 = some 4 := h.f (List.mem_of_getElem? (i := 2) rfl)
theorem F_3_1 {M : MM} (h : SH M) : fr M 3 1 = some 5 := h.f (List.mem_of_getElem? (i := 3) rfl)
theorem F_3_2 {M : MM} (h : SH M) : fr M 3 2 = some 6 := h.f (List.mem_of_getElem? (i := 4) rfl)
theorem F_0_1 {M : MM} (h : SH M) : fr M 0 1 = some 3 := h.f (List.mem_of_getElem? (i := 5) rfl)
theorem F_0_2 {M : MM} (h : SH M) : fr M 0 2 = some 7 := h.f (List.mem_of_getElem? (i := 6) rfl)
theorem F_8_0 {M : MM} (h : SH M) : fr M 8 0 = some 9 := h.f (List.mem_of_getElem? (i := 7) rfl)
theorem F_8_1 {M : MM} (h : SH M) : fr M 8 1 = some 10 := h.f (List.mem_of_getElem? (i := 8) rfl)
theorem F_8_2 {M : MM} (h : SH M) : fr M 8 2 = some 11 := h.f (List.mem_of_getElem? (i := 9) rfl)
theorem F_0_3 {M : MM} (h : SH M) : fr M 0 3 = some 8 := h.f (List.mem_of_getElem? (i := 10) rfl)
theorem F_12_0 {M : MM} (h : SH M) : fr M 12 0 = some 13 := h.f (List.mem_of_getElem? (i := 11) rfl)
theorem F_12_1 {M : MM} (h : SH M) : fr M 12 1 = some 14 := h.f (List.mem_of_getElem? (i := 12) rfl)
theorem F_12_2 {M : MM} (h : SH M) : fr M 12 2 = some 15 := h.f (List.mem_of_getElem? (i := 13) rfl)
theorem F_12_3 {M : MM} (h : SH M) : fr M 12 3 = some 16 := h.f (List.mem_of_getElem? (i := 14) rfl)
theorem F_0_4 {M : MM} (h : SH M) : fr M 0 4 = some 12 := h.f (List.mem_of_getElem? (i := 15) rfl)
theorem F_0_5 {M : MM} (h : SH M) : fr M 0 5 = some 17 := h.f (List.mem_of_getElem? (i := 16) rfl)
theorem F_18_0 {M : MM} (h : SH M) : fr M 18 0 = some 19 := h.f (List.mem_of_getElem? (i := 17) rfl)
theorem F_18_1 {M : MM} (h : SH M) : fr M 18 1 = some 20 := h.f (List.mem_of_getElem? (i := 18) rfl)
theorem F_18_2 {M : MM} (h : SH M) : fr M 18 2 = some 21 := h.f (List.mem_of_getElem? (i := 19) rfl)
theorem F_18_3 {M : MM} (h : SH M) : fr M 18 3 = some 22 := h.f (List.mem_of_getElem? (i := 20) rfl)
theorem F_18_4 {M : MM} (h : SH M) : fr M 18 4 = some 23 := h.f (List.mem_of_getElem? (i := 21) rfl)
theorem F_18_5 {M : MM} (h : SH M) : fr M 18 5 = some 24 := h.f (List.mem_of_getElem? (i := 22) rfl)
theorem F_18_6 {M : MM} (h : SH M) : fr M 18 6 = some 25 := h.f (List.mem_of_getElem? (i := 23) rfl)
theorem F_26_0 {M : MM} (h : SH M) : fr M 26 0 = some 27 := h.f (List.mem_of_getElem? (i := 24) rfl)
theorem F_26_1 {M : MM} (h : SH M) : fr M 26 1 = some 28 := h.f (List.mem_of_getElem? (i := 25) rfl)
theorem F_26_2 {M : MM} (h : SH M) : fr M 26 2 = some 29 := h.f (List.mem_of_getElem? (i := 26) rfl)
theorem F_26_3 {M : MM} (h : SH M) : fr M 26 3 = some 30 := h.f (List.mem_of_getElem? (i := 27) rfl)
theorem F_26_4 {M : MM} (h : SH M) : fr M 26 4 = some 31 := h.f (List.mem_of_getElem? (i := 28) rfl)
theorem F_26_5 {M : MM} (h : SH M) : fr M 26 5 = some 32 := h.f (List.mem_of_getElem? (i := 29) rfl)
theorem F_26_6 {M : MM} (h : SH M) : fr M 26 6 = some 33 := h.f (List.mem_of_getElem? (i := 30) rfl)
theorem F_34_0 {M : MM} (h : SH M) : fr M 34 0 = some 35 := h.f (List.mem_of_getElem? (i := 31) rfl)
theorem F_34_1 {M : MM} (h : SH M) : fr M 34 1 = some 36 := h.f (List.mem_of_getElem? (i := 32) rfl)
theorem F_34_2 {M : MM} (h : SH M) : fr M 34 2 = some 37 := h.f (List.mem_of_getElem? (i := 33) rfl)
theorem F_38_0 {M : MM} (h : SH M) : fr M 38 0 = some 39 := h.f (List.mem_of_getElem? (i := 34) rfl)
theorem F_38_1 {M : MM} (h : SH M) : fr M 38 1 = some 40 := h.f (List.mem_of_getElem? (i := 35) rfl)
theorem F_38_2 {M : MM} (h : SH M) : fr M 38 2 = some 41 := h.f (List.mem_of_getElem? (i := 36) rfl)
theorem F_42_0 {M : MM} (h : SH M) : fr M 42 0 = some 43 := h.f (List.mem_of_getElem? (i := 37) rfl)
theorem F_42_1 {M : MM} (h : SH M) : fr M 42 1 = some 44 := h.f (List.mem_of_getElem? (i := 38) rfl)
theorem F_45_0 {M : MM} (h : SH M) : fr M 45 0 = some 46 := h.f (List.mem_of_getElem? (i := 39) rfl)
theorem F_45_1 {M : MM} (h : SH M) : fr M 45 1 = some 47 := h.f (List.mem_of_getElem? (i := 40) rfl)
theorem F_48_0 {M : MM} (h : SH M) : fr M 48 0 = some 49 := h.f (List.mem_of_getElem? (i := 41) rfl)
theorem F_48_1 {M : MM} (h : SH M) : fr M 48 1 = some 50 := h.f (List.mem_of_getElem? (i := 42) rfl)
theorem F_48_2 {M : MM} (h : SH M) : fr M 48 2 = some 51 := h.f (List.mem_of_getElem? (i := 43) rfl)
theorem F_48_3 {M : MM} (h : SH M) : fr M 48 3 = some 52 := h.f (List.mem_of_getElem? (i := 44) rfl)
theorem F_53_9 {M : MM} (h : SH M) : fr M 53 9 = some 54 := h.f (List.mem_of_getElem? (i := 45) rfl)
theorem F_53_10 {M : MM} (h : SH M) : fr M 53 10 = some 55 := h.f (List.mem_of_getElem? (i := 46) rfl)
theorem F_53_11 {M : MM} (h : SH M) : fr M 53 11 = some 56 := h.f (List.mem_of_getElem? (i := 47) rfl)
theorem F_53_12 {M : MM} (h : SH M) : fr M 53 12 = some 57 := h.f (List.mem_of_getElem? (i := 48) rfl)
theorem F_53_13 {M : MM} (h : SH M) : fr M 53 13 = some 58 := h.f (List.mem_of_getElem? (i := 49) rfl)
theorem F_53_14 {M : MM} (h : SH M) : fr M 53 14 = some 59 := h.f (List.mem_of_getElem? (i := 50) rfl)
theorem F_53_15 {M : MM} (h : SH M) : fr M 53 15 = some 60 := h.f (List.mem_of_getElem? (i := 51) rfl)
theorem F_53_16 {M : MM} (h : SH M) : fr M 53 16 = some 77 := h.f (List.mem_of_getElem? (i := 52) rfl)
theorem F_53_19 {M : MM} (h : SH M) : fr M 53 19 = some 94 := h.f (List.mem_of_getElem? (i := 53) rfl)
theorem F_53_20 {M : MM} (h : SH M) : fr M 53 20 = some 255 := h.f (List.mem_of_getElem? (i := 54) rfl)
theorem F_53_21 {M : MM} (h : SH M) : fr M 53 21 = some 416 := h.f (List.mem_of_getElem? (i := 55) rfl)
theorem F_53_22 {M : MM} (h : SH M) : fr M 53 22 = some 427 := h.f (List.mem_of_getElem? (i := 56) rfl)
theorem F_53_23 {M : MM} (h : SH M) : fr M 53 23 = some 438 := h.f (List.mem_of_getElem? (i := 57) rfl)
theorem F_53_24 {M : MM} (h : SH M) : fr M 53 24 = some 439 := h.f (List.mem_of_getElem? (i := 58) rfl)
theorem F_53_25 {M : MM} (h : SH M) : fr M 53 25 = some 440 := h.f (List.mem_of_getElem? (i := 59) rfl)
theorem F_53_27 {M : MM} (h : SH M) : fr M 53 27 = some 521 := h.f (List.mem_of_getElem? (i := 60) rfl)
theorem F_53_28 {M : MM} (h : SH M) : fr M 53 28 = some 522 := h.f (List.mem_of_getElem? (i := 61) rfl)
theorem F_53_29 {M : MM} (h : SH M) : fr M 53 29 = some 523 := h.f (List.mem_of_getElem? (i := 62) rfl)
theorem F_53_30 {M : MM} (h : SH M) : fr M 53 30 = some 540 := h.f (List.mem_of_getElem? (i := 63) rfl)
theorem F_53_41 {M : MM} (h : SH M) : fr M 53 41 = some 544 := h.f (List.mem_of_getElem? (i := 64) rfl)
theorem F_53_42 {M : MM} (h : SH M) : fr M 53 42 = some 545 := h.f (List.mem_of_getElem? (i := 65) rfl)
theorem F_53_43 {M : MM} (h : SH M) : fr M 53 43 = some 546 := h.f (List.mem_of_getElem? (i := 66) rfl)
theorem Q_60 {M : MM} {i : Nat} (h : SH M) (hi : i < 16) : aq M 60 i = some (61 + i) := h.q (List.mem_of_getElem? (i := 0) rfl) hi
theorem QC_60 {M : MM} {i : Nat} (h : SH M) (hi : i < 16) : cl M (61 + i) = 20 := h.qc (List.mem_of_getElem? (i := 0) rfl) hi (by decide)
theorem QN_60 {M : MM} {i : Nat} (h : SH M) (hi : i < 16) : ln M (61 + i) = 5 := h.qn (List.mem_of_getElem? (i := 0) rfl) hi
theorem Q_77 {M : MM} {i : Nat} (h : SH M) (hi : i < 16) : aq M 77 i = some (78 + i) := h.q (List.mem_of_getElem? (i := 1) rfl) hi
theorem QC_77 {M : MM} {i : Nat} (h : SH M) (hi : i < 16) : cl M (78 + i) = 20 := h.qc (List.mem_of_getElem? (i := 1) rfl) hi (by decide)
theorem QN_77 {M : MM} {i : Nat} (h : SH M) (hi : i < 16) : ln M (78 + i) = 5 := h.qn (List.mem_of_getElem? (i := 1) rfl) hi
theorem Q_94 {M : MM} {i : Nat} (h : SH M) (hi : i < 160) : aq M 94 i = some (95 + i) := h.q (List.mem_of_getElem? (i := 2) rfl) hi
theorem QC_94 {M : MM} {i : Nat} (h : SH M) (hi : i < 160) : cl M (95 + i) = 20 := h.qc (List.mem_of_getElem? (i := 2) rfl) hi (by decide)
theorem QN_94 {M : MM} {i : Nat} (h : SH M) (hi : i < 160) : ln M (95 + i) = 2 := h.qn (List.mem_of_getElem? (i := 2) rfl) hi
theorem Q_255 {M : MM} {i : Nat} (h : SH M) (hi : i < 160) : aq M 255 i = some (256 + i) := h.q (List.mem_of_getElem? (i := 3) rfl) hi
theorem QC_255 {M : MM} {i : Nat} (h : SH M) (hi : i < 160) : cl M (256 + i) = 20 := h.qc (List.mem_of_getElem? (i := 3) rfl) hi (by decide)
theorem QN_255 {M : MM} {i : Nat} (h : SH M) (hi : i < 160) : ln M (256 + i) = 2 := h.qn (List.mem_of_getElem? (i := 3) rfl) hi
theorem Q_416 {M : MM} {i : Nat} (h : SH M) (hi : i < 10) : aq M 416 i = some (417 + i) := h.q (List.mem_of_getElem? (i := 4) rfl) hi
theorem QC_416 {M : MM} {i : Nat} (h : SH M) (hi : i < 10) : cl M (417 + i) = 20 := h.qc (List.mem_of_getElem? (i := 4) rfl) hi (by decide)
theorem QN_416 {M : MM} {i : Nat} (h : SH M) (hi : i < 10) : ln M (417 + i) = 2 := h.qn (List.mem_of_getElem? (i := 4) rfl) hi
theorem Q_427 {M : MM} {i : Nat} (h : SH M) (hi : i < 10) : aq M 427 i = some (428 + i) := h.q (List.mem_of_getElem? (i := 5) rfl) hi
theorem QC_427 {M : MM} {i : Nat} (h : SH M) (hi : i < 10) : cl M (428 + i) = 20 := h.qc (List.mem_of_getElem? (i := 5) rfl) hi (by decide)
theorem QN_427 {M : MM} {i : Nat} (h : SH M) (hi : i < 10) : ln M (428 + i) = 2 := h.qn (List.mem_of_getElem? (i := 5) rfl) hi
theorem Q_440 {M : MM} {i : Nat} (h : SH M) (hi : i < 80) : aq M 440 i = some (441 + i) := h.q (List.mem_of_getElem? (i := 6) rfl) hi
theorem QC_440 {M : MM} {i : Nat} (h : SH M) (hi : i < 80) : cl M (441 + i) = 20 := h.qc (List.mem_of_getElem? (i := 6) rfl) hi (by decide)
theorem QN_440 {M : MM} {i : Nat} (h : SH M) (hi : i < 80) : ln M (441 + i) = 3 := h.qn (List.mem_of_getElem? (i := 6) rfl) hi
theorem Q_523 {M : MM} {i : Nat} (h : SH M) (hi : i < 16) : aq M 523 i = some (524 + i) := h.q (List.mem_of_getElem? (i := 7) rfl) hi
theorem QC_523 {M : MM} {i : Nat} (h : SH M) (hi : i < 16) : cl M (524 + i) = 20 := h.qc (List.mem_of_getElem? (i := 7) rfl) hi (by decide)
theorem QN_523 {M : MM} {i : Nat} (h : SH M) (hi : i < 16) : ln M (524 + i) = 83 := h.qn (List.mem_of_getElem? (i := 7) rfl) hi
theorem Q_540 {M : MM} {i : Nat} (h : SH M) (hi : i < 3) : aq M 540 i = some (541 + i) := h.q (List.mem_of_getElem? (i := 8) rfl) hi
theorem QC_540 {M : MM} {i : Nat} (h : SH M) (hi : i < 3) : cl M (541 + i) = 20 := h.qc (List.mem_of_getElem? (i := 8) rfl) hi (by decide)
theorem QN_540 {M : MM} {i : Nat} (h : SH M) (hi : i < 3) : ln M (541 + i) = 1412 := h.qn (List.mem_of_getElem? (i := 8) rfl) hi
/-! getters behind setters -/
theorem ai_eq (M : MM) (a : Nat) (f : Nat → Int32) : ai (setA M a f) a = f := va_eq
theorem ai_ne {M : MM} {a b : Nat} {f : Nat → Int32} (h : b ≠ a) : ai (setA M a f) b = ai M b := va_ne h
theorem al_eq (M : MM) (a : Nat) (f : Nat → Int64) : al (setL M a f) a = f := va_eq
theorem al_ne {M : MM} {a b : Nat} {f : Nat → Int64} (h : b ≠ a) : al (setL M a f) b = al M b := va_ne h
theorem aq_eq (M : MM) (a : Nat) (f : Nat → Option Nat) : aq (setQ M a f) a = f := va_eq
theorem aq_ne {M : MM} {a b : Nat} {f : Nat → Option Nat} (h : b ≠ a) : aq (setQ M a f) b = aq M b := va_ne h
theorem fi_eq (M : MM) (a k : Nat) (x : Int32) : fi (setI M a k x) a k = x := if_pos ⟨rfl, rfl⟩
theorem fi_nk {M : MM} {a k j : Nat} {x : Int32} (h : j ≠ k) : fi (setI M a k x) a j = fi M a j := if_neg (fun z => h z.2)
theorem fi_na {M : MM} {a b k j : Nat} {x : Int32} (h : b ≠ a) : fi (setI M a k x) b j = fi M b j := if_neg (fun z => h z.1)
theorem fr_eq (M : MM) (a k : Nat) (x : Option Nat) : fr (setR M a k x) a k = x := if_pos ⟨rfl, rfl⟩
theorem fr_nk {M : MM} {a k j : Nat} {x : Option Nat} (h : j ≠ k) : fr (setR M a k x) a j = fr M a j := if_neg (fun z => h z.2)
theorem fr_na {M : MM} {a b k j : Nat} {x : Option Nat} (h : b ≠ a) : fr (setR M a k x) b j = fr M b j := if_neg (fun z => h z.1)
theorem up_eq (f : Nat → Int32) (i : Nat) (x : Int32) : upd f i x i = x := by unfold upd; rw [if_pos rfl]
theorem up_ne {f : Nat → Int32} {i j : Nat} {x : Int32} (h : j ≠ i) : upd f i x j = f j := by unfold upd; rw [if_neg h]
theorem va_up_up {α : Type} (f : Nat → α) (a : Nat) (x y : α) : va_up (va_up f a x) a y = va_up f a y := by
  funext b
  unfold va_up
  split <;> rfl
theorem setA_setA (M : MM) (a : Nat) (f g : Nat → Int32) : setA (setA M a f) a g = setA M a g := by
  show (_, _, _, _, va_up (va_up (ai M) a f) a g, _) = _
  rw [va_up_up]; rfl
theorem setI_setI (M : MM) (a k : Nat) (x y : Int32) : setI (setI M a k x) a k y = setI M a k y := by
  have h : up2 (up2 (fi M) a k x) a k y = up2 (fi M) a k y := by
    funext b j
    unfold up2
    split <;> rfl
  show (_, _, up2 (up2 (fi M) a k x) a k y, _) = _
  rw [h]; rfl
theorem setA_self (M : MM) (a : Nat) : setA M a (ai M a) = M := by
  have h : va_up (ai M) a (ai M a) = ai M := by
    funext b
    unfold va_up
    split
    · rename_i e; rw [e]
    · rfl
  show (_, _, _, _, va_up (ai M) a (ai M a), _) = _
  rw [h]; rfl
theorem setI_self (M : MM) (a k : Nat) : setI M a k (fi M a k) = M := by
  have h : up2 (fi M) a k (fi M a k) = fi M := by
    funext b j
    unfold up2
    split
    · rename_i e; rw [e.1, e.2]
    · rfl
  show (_, _, up2 (fi M) a k (fi M a k), _) = _
  rw [h]; rfl
