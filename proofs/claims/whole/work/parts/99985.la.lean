/-! ===== the law: which call ===== -/
def swK (x : Int32) : Option Nat := tswK 0 41 [42, 0, 1, 2, 3, 4, 5, 6, 7, 8, 9, 10, 11, 12, 13, 14, 15, 16, 17, 18, 19, 20, 21, 22, 23, 24, 25, 26, 27, 28, 29, 30, 31, 32, 33, 34, 35, 36, 37, 38, 39, 40, 41] x
theorem swK_j : ∀ j, j < 64 → swK (nI j) = some (if j < 42 then j else 42) := by decide
theorem up_o {d e k : Nat} {t c : AT} {st X : AS} (h : Ev d t st (.inl (k + 1)) X) : Ev d (bk e (sq t c)) st (.inl k) X := Ev.blk (Ev.out h (fun z => by cases z))
theorem go_o {d e k : Nat} {t c : AT} {st Y X : AS} (h : Ev d t st (.inl 0) Y) (g : Ev d c Y (.inl (k + 1)) X) : Ev d (bk e (sq t c)) st (.inl k) X := Ev.blk (Ev.seq h g)
theorem lg_same (x : Int64) : lg_cmp x x = nI 0 := lg_0.mpr rfl
theorem sw_b {d J : Nat} {x : Int32} {l : AL} {h : AH} (hJ : swK x = some J) : Ev d (bk 224 (lf (.tableswitch 2659 0 41 #[184, 257, 313, 369, 425, 481, 494, 507, 563, 631, 699, 755, 901, 914, 970, 1026, 1094, 1157, 1213, 1269, 1348, 1404, 1483, 1562, 1618, 1686, 1754, 1767, 1858, 1938, 2006, 2086, 2099, 2155, 2211, 2279, 2347, 2451, 2583, 2596, 2609, 2634]) [42, 0, 1, 2, 3, 4, 5, 6, 7, 8, 9, 10, 11, 12, 13, 14, 15, 16, 17, 18, 19, 20, 21, 22, 23, 24, 25, 26, 27, 28, 29, 30, 31, 32, 33, 34, 35, 36, 37, 38, 39, 40, 41])) (l, [.int x], h) (.inl J) (l, [], h) := by
  have e : ev d (lf (.tableswitch 2659 0 41 #[184, 257, 313, 369, 425, 481, 494, 507, 563, 631, 699, 755, 901, 914, 970, 1026, 1094, 1157, 1213, 1269, 1348, 1404, 1483, 1562, 1618, 1686, 1754, 1767, 1858, 1938, 2006, 2086, 2099, 2155, 2211, 2279, 2347, 2451, 2583, 2596, 2609, 2634]) [42, 0, 1, 2, 3, 4, 5, 6, 7, 8, 9, 10, 11, 12, 13, 14, 15, 16, 17, 18, 19, 20, 21, 22, 23, 24, 25, 26, 27, 28, 29, 30, 31, 32, 33, 34, 35, 36, 37, 38, 39, 40, 41]) (l, [.int x], h) = some (.inl (J + 1), l, [], h) := by
    rw [y_tsw]
    have hJ : tswK 0 41 [42, 0, 1, 2, 3, 4, 5, 6, 7, 8, 9, 10, 11, 12, 13, 14, 15, 16, 17, 18, 19, 20, 21, 22, 23, 24, 25, 26, 27, 28, 29, 30, 31, 32, 33, 34, 35, 36, 37, 38, 39, 40, 41] x = some J := hJ
    rw [hJ]; rfl
  exact Ev.blk (o := .inl (J + 1)) ⟨l, e, Lq.rf l⟩
theorem sk_0 {d J : Nat} {x : Int32} {l : AL} {h : AH} (hJ : swK x = some (J + 1)) : Ev d t_L_law__b297 (l, [.int x], h) (.inl J) (l, [], h) := by
  unfold t_L_law__b297
  exact up_o (sw_b (J := J + 1) (by rw [hJ]))
theorem sk_1 {d J : Nat} {x : Int32} {l : AL} {h : AH} (hJ : swK x = some (J + 2)) : Ev d t_L_law__b353 (l, [.int x], h) (.inl J) (l, [], h) := by
  unfold t_L_law__b353
  exact up_o (sk_0 (J := J + 1) (by rw [hJ]))
theorem sk_2 {d J : Nat} {x : Int32} {l : AL} {h : AH} (hJ : swK x = some (J + 3)) : Ev d t_L_law__b409 (l, [.int x], h) (.inl J) (l, [], h) := by
  unfold t_L_law__b409
  exact up_o (sk_1 (J := J + 1) (by rw [hJ]))
theorem sk_3 {d J : Nat} {x : Int32} {l : AL} {h : AH} (hJ : swK x = some (J + 4)) : Ev d t_L_law__b465 (l, [.int x], h) (.inl J) (l, [], h) := by
  unfold t_L_law__b465
  exact up_o (sk_2 (J := J + 1) (by rw [hJ]))
theorem sk_4 {d J : Nat} {x : Int32} {l : AL} {h : AH} (hJ : swK x = some (J + 5)) : Ev d t_L_law__b521 (l, [.int x], h) (.inl J) (l, [], h) := by
  unfold t_L_law__b521
  exact up_o (sk_3 (J := J + 1) (by rw [hJ]))
theorem sk_5 {d J : Nat} {x : Int32} {l : AL} {h : AH} (hJ : swK x = some (J + 6)) : Ev d t_L_law__b534 (l, [.int x], h) (.inl J) (l, [], h) := by
  unfold t_L_law__b534
  exact up_o (sk_4 (J := J + 1) (by rw [hJ]))
theorem sk_6 {d J : Nat} {x : Int32} {l : AL} {h : AH} (hJ : swK x = some (J + 7)) : Ev d t_L_law__b547 (l, [.int x], h) (.inl J) (l, [], h) := by
  unfold t_L_law__b547
  exact up_o (sk_5 (J := J + 1) (by rw [hJ]))
theorem sk_7 {d J : Nat} {x : Int32} {l : AL} {h : AH} (hJ : swK x = some (J + 8)) : Ev d t_L_law__b603 (l, [.int x], h) (.inl J) (l, [], h) := by
  unfold t_L_law__b603
  exact up_o (sk_6 (J := J + 1) (by rw [hJ]))
theorem sk_8 {d J : Nat} {x : Int32} {l : AL} {h : AH} (hJ : swK x = some (J + 9)) : Ev d t_L_law__b671 (l, [.int x], h) (.inl J) (l, [], h) := by
  unfold t_L_law__b671
  exact up_o (sk_7 (J := J + 1) (by rw [hJ]))
theorem sk_9 {d J : Nat} {x : Int32} {l : AL} {h : AH} (hJ : swK x = some (J + 10)) : Ev d t_L_law__b739 (l, [.int x], h) (.inl J) (l, [], h) := by
  unfold t_L_law__b739
  exact up_o (sk_8 (J := J + 1) (by rw [hJ]))
theorem sk_10 {d J : Nat} {x : Int32} {l : AL} {h : AH} (hJ : swK x = some (J + 11)) : Ev d t_L_law__b795 (l, [.int x], h) (.inl J) (l, [], h) := by
  unfold t_L_law__b795
  exact up_o (sk_9 (J := J + 1) (by rw [hJ]))
theorem sk_11 {d J : Nat} {x : Int32} {l : AL} {h : AH} (hJ : swK x = some (J + 12)) : Ev d t_L_law__b941 (l, [.int x], h) (.inl J) (l, [], h) := by
  unfold t_L_law__b941
  exact up_o (sk_10 (J := J + 1) (by rw [hJ]))
theorem sk_12 {d J : Nat} {x : Int32} {l : AL} {h : AH} (hJ : swK x = some (J + 13)) : Ev d t_L_law__b954 (l, [.int x], h) (.inl J) (l, [], h) := by
  unfold t_L_law__b954
  exact up_o (sk_11 (J := J + 1) (by rw [hJ]))
theorem sk_13 {d J : Nat} {x : Int32} {l : AL} {h : AH} (hJ : swK x = some (J + 14)) : Ev d t_L_law__b1010 (l, [.int x], h) (.inl J) (l, [], h) := by
  unfold t_L_law__b1010
  exact up_o (sk_12 (J := J + 1) (by rw [hJ]))
theorem sk_14 {d J : Nat} {x : Int32} {l : AL} {h : AH} (hJ : swK x = some (J + 15)) : Ev d t_L_law__b1066 (l, [.int x], h) (.inl J) (l, [], h) := by
  unfold t_L_law__b1066
  exact up_o (sk_13 (J := J + 1) (by rw [hJ]))
theorem sk_15 {d J : Nat} {x : Int32} {l : AL} {h : AH} (hJ : swK x = some (J + 16)) : Ev d t_L_law__b1134 (l, [.int x], h) (.inl J) (l, [], h) := by
  unfold t_L_law__b1134
  exact up_o (sk_14 (J := J + 1) (by rw [hJ]))
theorem sk_16 {d J : Nat} {x : Int32} {l : AL} {h : AH} (hJ : swK x = some (J + 17)) : Ev d t_L_law__b1197 (l, [.int x], h) (.inl J) (l, [], h) := by
  unfold t_L_law__b1197
  exact up_o (sk_15 (J := J + 1) (by rw [hJ]))
theorem sk_17 {d J : Nat} {x : Int32} {l : AL} {h : AH} (hJ : swK x = some (J + 18)) : Ev d t_L_law__b1253 (l, [.int x], h) (.inl J) (l, [], h) := by
  unfold t_L_law__b1253
  exact up_o (sk_16 (J := J + 1) (by rw [hJ]))
theorem sk_18 {d J : Nat} {x : Int32} {l : AL} {h : AH} (hJ : swK x = some (J + 19)) : Ev d t_L_law__b1309 (l, [.int x], h) (.inl J) (l, [], h) := by
  unfold t_L_law__b1309
  exact up_o (sk_17 (J := J + 1) (by rw [hJ]))
theorem sk_19 {d J : Nat} {x : Int32} {l : AL} {h : AH} (hJ : swK x = some (J + 20)) : Ev d t_L_law__b1388 (l, [.int x], h) (.inl J) (l, [], h) := by
  unfold t_L_law__b1388
  exact up_o (sk_18 (J := J + 1) (by rw [hJ]))
theorem sk_20 {d J : Nat} {x : Int32} {l : AL} {h : AH} (hJ : swK x = some (J + 21)) : Ev d t_L_law__b1444 (l, [.int x], h) (.inl J) (l, [], h) := by
  unfold t_L_law__b1444
  exact up_o (sk_19 (J := J + 1) (by rw [hJ]))
theorem sk_21 {d J : Nat} {x : Int32} {l : AL} {h : AH} (hJ : swK x = some (J + 22)) : Ev d t_L_law__b1523 (l, [.int x], h) (.inl J) (l, [], h) := by
  unfold t_L_law__b1523
  exact up_o (sk_20 (J := J + 1) (by rw [hJ]))
theorem sk_22 {d J : Nat} {x : Int32} {l : AL} {h : AH} (hJ : swK x = some (J + 23)) : Ev d t_L_law__b1602 (l, [.int x], h) (.inl J) (l, [], h) := by
  unfold t_L_law__b1602
  exact up_o (sk_21 (J := J + 1) (by rw [hJ]))
theorem sk_23 {d J : Nat} {x : Int32} {l : AL} {h : AH} (hJ : swK x = some (J + 24)) : Ev d t_L_law__b1658 (l, [.int x], h) (.inl J) (l, [], h) := by
  unfold t_L_law__b1658
  exact up_o (sk_22 (J := J + 1) (by rw [hJ]))
theorem sk_24 {d J : Nat} {x : Int32} {l : AL} {h : AH} (hJ : swK x = some (J + 25)) : Ev d t_L_law__b1726 (l, [.int x], h) (.inl J) (l, [], h) := by
  unfold t_L_law__b1726
  exact up_o (sk_23 (J := J + 1) (by rw [hJ]))
theorem sk_25 {d J : Nat} {x : Int32} {l : AL} {h : AH} (hJ : swK x = some (J + 26)) : Ev d t_L_law__b1794 (l, [.int x], h) (.inl J) (l, [], h) := by
  unfold t_L_law__b1794
  exact up_o (sk_24 (J := J + 1) (by rw [hJ]))
theorem sk_26 {d J : Nat} {x : Int32} {l : AL} {h : AH} (hJ : swK x = some (J + 27)) : Ev d t_L_law__b1807 (l, [.int x], h) (.inl J) (l, [], h) := by
  unfold t_L_law__b1807
  exact up_o (sk_25 (J := J + 1) (by rw [hJ]))
theorem sk_27 {d J : Nat} {x : Int32} {l : AL} {h : AH} (hJ : swK x = some (J + 28)) : Ev d t_L_law__b1898 (l, [.int x], h) (.inl J) (l, [], h) := by
  unfold t_L_law__b1898
  exact up_o (sk_26 (J := J + 1) (by rw [hJ]))
theorem sk_28 {d J : Nat} {x : Int32} {l : AL} {h : AH} (hJ : swK x = some (J + 29)) : Ev d t_L_law__b1978 (l, [.int x], h) (.inl J) (l, [], h) := by
  unfold t_L_law__b1978
  exact up_o (sk_27 (J := J + 1) (by rw [hJ]))
theorem sk_29 {d J : Nat} {x : Int32} {l : AL} {h : AH} (hJ : swK x = some (J + 30)) : Ev d t_L_law__b2046 (l, [.int x], h) (.inl J) (l, [], h) := by
  unfold t_L_law__b2046
  exact up_o (sk_28 (J := J + 1) (by rw [hJ]))
theorem sk_30 {d J : Nat} {x : Int32} {l : AL} {h : AH} (hJ : swK x = some (J + 31)) : Ev d t_L_law__b2126 (l, [.int x], h) (.inl J) (l, [], h) := by
  unfold t_L_law__b2126
  exact up_o (sk_29 (J := J + 1) (by rw [hJ]))
theorem sk_31 {d J : Nat} {x : Int32} {l : AL} {h : AH} (hJ : swK x = some (J + 32)) : Ev d t_L_law__b2139 (l, [.int x], h) (.inl J) (l, [], h) := by
  unfold t_L_law__b2139
  exact up_o (sk_30 (J := J + 1) (by rw [hJ]))
theorem sk_32 {d J : Nat} {x : Int32} {l : AL} {h : AH} (hJ : swK x = some (J + 33)) : Ev d t_L_law__b2195 (l, [.int x], h) (.inl J) (l, [], h) := by
  unfold t_L_law__b2195
  exact up_o (sk_31 (J := J + 1) (by rw [hJ]))
theorem sk_33 {d J : Nat} {x : Int32} {l : AL} {h : AH} (hJ : swK x = some (J + 34)) : Ev d t_L_law__b2251 (l, [.int x], h) (.inl J) (l, [], h) := by
  unfold t_L_law__b2251
  exact up_o (sk_32 (J := J + 1) (by rw [hJ]))
theorem sk_34 {d J : Nat} {x : Int32} {l : AL} {h : AH} (hJ : swK x = some (J + 35)) : Ev d t_L_law__b2319 (l, [.int x], h) (.inl J) (l, [], h) := by
  unfold t_L_law__b2319
  exact up_o (sk_33 (J := J + 1) (by rw [hJ]))
theorem sk_35 {d J : Nat} {x : Int32} {l : AL} {h : AH} (hJ : swK x = some (J + 36)) : Ev d t_L_law__b2387 (l, [.int x], h) (.inl J) (l, [], h) := by
  unfold t_L_law__b2387
  exact up_o (sk_34 (J := J + 1) (by rw [hJ]))
theorem sk_36 {d J : Nat} {x : Int32} {l : AL} {h : AH} (hJ : swK x = some (J + 37)) : Ev d t_L_law__b2491 (l, [.int x], h) (.inl J) (l, [], h) := by
  unfold t_L_law__b2491
  exact up_o (sk_35 (J := J + 1) (by rw [hJ]))
theorem sk_37 {d J : Nat} {x : Int32} {l : AL} {h : AH} (hJ : swK x = some (J + 38)) : Ev d t_L_law__b2623 (l, [.int x], h) (.inl J) (l, [], h) := by
  unfold t_L_law__b2623
  exact up_o (sk_36 (J := J + 1) (by rw [hJ]))
theorem sk_38 {d J : Nat} {x : Int32} {l : AL} {h : AH} (hJ : swK x = some (J + 39)) : Ev d t_L_law__b2636 (l, [.int x], h) (.inl J) (l, [], h) := by
  unfold t_L_law__b2636
  exact up_o (sk_37 (J := J + 1) (by rw [hJ]))
theorem sk_39 {d J : Nat} {x : Int32} {l : AL} {h : AH} (hJ : swK x = some (J + 40)) : Ev d t_L_law__b2649 (l, [.int x], h) (.inl J) (l, [], h) := by
  unfold t_L_law__b2649
  exact up_o (sk_38 (J := J + 1) (by rw [hJ]))
theorem sk_40 {d J : Nat} {x : Int32} {l : AL} {h : AH} (hJ : swK x = some (J + 41)) : Ev d t_L_law__b2674 (l, [.int x], h) (.inl J) (l, [], h) := by
  unfold t_L_law__b2674
  exact up_o (sk_39 (J := J + 1) (by rw [hJ]))
theorem sk_41 {d J : Nat} {x : Int32} {l : AL} {h : AH} (hJ : swK x = some (J + 42)) : Ev d t_L_law__b2699 (l, [.int x], h) (.inl J) (l, [], h) := by
  unfold t_L_law__b2699
  exact up_o (sk_40 (J := J + 1) (by rw [hJ]))
