/-! ===== the law: its loop ===== -/
theorem uo_1 {d k : Nat} {st X : AS} (h : Ev d t_L_law__b297 st (.inl (k + 1)) X) : Ev d t_L_law__b353 st (.inl k) X := by
  unfold t_L_law__b353
  exact up_o h
theorem uo_2 {d k : Nat} {st X : AS} (h : Ev d t_L_law__b353 st (.inl (k + 1)) X) : Ev d t_L_law__b409 st (.inl k) X := by
  unfold t_L_law__b409
  exact up_o h
theorem uo_3 {d k : Nat} {st X : AS} (h : Ev d t_L_law__b409 st (.inl (k + 1)) X) : Ev d t_L_law__b465 st (.inl k) X := by
  unfold t_L_law__b465
  exact up_o h
theorem uo_4 {d k : Nat} {st X : AS} (h : Ev d t_L_law__b465 st (.inl (k + 1)) X) : Ev d t_L_law__b521 st (.inl k) X := by
  unfold t_L_law__b521
  exact up_o h
theorem uo_5 {d k : Nat} {st X : AS} (h : Ev d t_L_law__b521 st (.inl (k + 1)) X) : Ev d t_L_law__b534 st (.inl k) X := by
  unfold t_L_law__b534
  exact up_o h
theorem uo_6 {d k : Nat} {st X : AS} (h : Ev d t_L_law__b534 st (.inl (k + 1)) X) : Ev d t_L_law__b547 st (.inl k) X := by
  unfold t_L_law__b547
  exact up_o h
theorem uo_7 {d k : Nat} {st X : AS} (h : Ev d t_L_law__b547 st (.inl (k + 1)) X) : Ev d t_L_law__b603 st (.inl k) X := by
  unfold t_L_law__b603
  exact up_o h
theorem uo_8 {d k : Nat} {st X : AS} (h : Ev d t_L_law__b603 st (.inl (k + 1)) X) : Ev d t_L_law__b671 st (.inl k) X := by
  unfold t_L_law__b671
  exact up_o h
theorem uo_9 {d k : Nat} {st X : AS} (h : Ev d t_L_law__b671 st (.inl (k + 1)) X) : Ev d t_L_law__b739 st (.inl k) X := by
  unfold t_L_law__b739
  exact up_o h
theorem uo_10 {d k : Nat} {st X : AS} (h : Ev d t_L_law__b739 st (.inl (k + 1)) X) : Ev d t_L_law__b795 st (.inl k) X := by
  unfold t_L_law__b795
  exact up_o h
theorem uo_11 {d k : Nat} {st X : AS} (h : Ev d t_L_law__b795 st (.inl (k + 1)) X) : Ev d t_L_law__b941 st (.inl k) X := by
  unfold t_L_law__b941
  exact up_o h
theorem uo_12 {d k : Nat} {st X : AS} (h : Ev d t_L_law__b941 st (.inl (k + 1)) X) : Ev d t_L_law__b954 st (.inl k) X := by
  unfold t_L_law__b954
  exact up_o h
theorem uo_13 {d k : Nat} {st X : AS} (h : Ev d t_L_law__b954 st (.inl (k + 1)) X) : Ev d t_L_law__b1010 st (.inl k) X := by
  unfold t_L_law__b1010
  exact up_o h
theorem uo_14 {d k : Nat} {st X : AS} (h : Ev d t_L_law__b1010 st (.inl (k + 1)) X) : Ev d t_L_law__b1066 st (.inl k) X := by
  unfold t_L_law__b1066
  exact up_o h
theorem uo_15 {d k : Nat} {st X : AS} (h : Ev d t_L_law__b1066 st (.inl (k + 1)) X) : Ev d t_L_law__b1134 st (.inl k) X := by
  unfold t_L_law__b1134
  exact up_o h
theorem uo_16 {d k : Nat} {st X : AS} (h : Ev d t_L_law__b1134 st (.inl (k + 1)) X) : Ev d t_L_law__b1197 st (.inl k) X := by
  unfold t_L_law__b1197
  exact up_o h
theorem uo_17 {d k : Nat} {st X : AS} (h : Ev d t_L_law__b1197 st (.inl (k + 1)) X) : Ev d t_L_law__b1253 st (.inl k) X := by
  unfold t_L_law__b1253
  exact up_o h
theorem uo_18 {d k : Nat} {st X : AS} (h : Ev d t_L_law__b1253 st (.inl (k + 1)) X) : Ev d t_L_law__b1309 st (.inl k) X := by
  unfold t_L_law__b1309
  exact up_o h
theorem uo_19 {d k : Nat} {st X : AS} (h : Ev d t_L_law__b1309 st (.inl (k + 1)) X) : Ev d t_L_law__b1388 st (.inl k) X := by
  unfold t_L_law__b1388
  exact up_o h
theorem uo_20 {d k : Nat} {st X : AS} (h : Ev d t_L_law__b1388 st (.inl (k + 1)) X) : Ev d t_L_law__b1444 st (.inl k) X := by
  unfold t_L_law__b1444
  exact up_o h
theorem uo_21 {d k : Nat} {st X : AS} (h : Ev d t_L_law__b1444 st (.inl (k + 1)) X) : Ev d t_L_law__b1523 st (.inl k) X := by
  unfold t_L_law__b1523
  exact up_o h
theorem uo_22 {d k : Nat} {st X : AS} (h : Ev d t_L_law__b1523 st (.inl (k + 1)) X) : Ev d t_L_law__b1602 st (.inl k) X := by
  unfold t_L_law__b1602
  exact up_o h
theorem uo_23 {d k : Nat} {st X : AS} (h : Ev d t_L_law__b1602 st (.inl (k + 1)) X) : Ev d t_L_law__b1658 st (.inl k) X := by
  unfold t_L_law__b1658
  exact up_o h
theorem uo_24 {d k : Nat} {st X : AS} (h : Ev d t_L_law__b1658 st (.inl (k + 1)) X) : Ev d t_L_law__b1726 st (.inl k) X := by
  unfold t_L_law__b1726
  exact up_o h
theorem uo_25 {d k : Nat} {st X : AS} (h : Ev d t_L_law__b1726 st (.inl (k + 1)) X) : Ev d t_L_law__b1794 st (.inl k) X := by
  unfold t_L_law__b1794
  exact up_o h
theorem uo_26 {d k : Nat} {st X : AS} (h : Ev d t_L_law__b1794 st (.inl (k + 1)) X) : Ev d t_L_law__b1807 st (.inl k) X := by
  unfold t_L_law__b1807
  exact up_o h
theorem uo_27 {d k : Nat} {st X : AS} (h : Ev d t_L_law__b1807 st (.inl (k + 1)) X) : Ev d t_L_law__b1898 st (.inl k) X := by
  unfold t_L_law__b1898
  exact up_o h
theorem uo_28 {d k : Nat} {st X : AS} (h : Ev d t_L_law__b1898 st (.inl (k + 1)) X) : Ev d t_L_law__b1978 st (.inl k) X := by
  unfold t_L_law__b1978
  exact up_o h
theorem uo_29 {d k : Nat} {st X : AS} (h : Ev d t_L_law__b1978 st (.inl (k + 1)) X) : Ev d t_L_law__b2046 st (.inl k) X := by
  unfold t_L_law__b2046
  exact up_o h
theorem uo_30 {d k : Nat} {st X : AS} (h : Ev d t_L_law__b2046 st (.inl (k + 1)) X) : Ev d t_L_law__b2126 st (.inl k) X := by
  unfold t_L_law__b2126
  exact up_o h
theorem uo_31 {d k : Nat} {st X : AS} (h : Ev d t_L_law__b2126 st (.inl (k + 1)) X) : Ev d t_L_law__b2139 st (.inl k) X := by
  unfold t_L_law__b2139
  exact up_o h
theorem uo_32 {d k : Nat} {st X : AS} (h : Ev d t_L_law__b2139 st (.inl (k + 1)) X) : Ev d t_L_law__b2195 st (.inl k) X := by
  unfold t_L_law__b2195
  exact up_o h
theorem uo_33 {d k : Nat} {st X : AS} (h : Ev d t_L_law__b2195 st (.inl (k + 1)) X) : Ev d t_L_law__b2251 st (.inl k) X := by
  unfold t_L_law__b2251
  exact up_o h
theorem uo_34 {d k : Nat} {st X : AS} (h : Ev d t_L_law__b2251 st (.inl (k + 1)) X) : Ev d t_L_law__b2319 st (.inl k) X := by
  unfold t_L_law__b2319
  exact up_o h
theorem uo_35 {d k : Nat} {st X : AS} (h : Ev d t_L_law__b2319 st (.inl (k + 1)) X) : Ev d t_L_law__b2387 st (.inl k) X := by
  unfold t_L_law__b2387
  exact up_o h
theorem uo_36 {d k : Nat} {st X : AS} (h : Ev d t_L_law__b2387 st (.inl (k + 1)) X) : Ev d t_L_law__b2491 st (.inl k) X := by
  unfold t_L_law__b2491
  exact up_o h
theorem uo_37 {d k : Nat} {st X : AS} (h : Ev d t_L_law__b2491 st (.inl (k + 1)) X) : Ev d t_L_law__b2623 st (.inl k) X := by
  unfold t_L_law__b2623
  exact up_o h
theorem uo_38 {d k : Nat} {st X : AS} (h : Ev d t_L_law__b2623 st (.inl (k + 1)) X) : Ev d t_L_law__b2636 st (.inl k) X := by
  unfold t_L_law__b2636
  exact up_o h
theorem uo_39 {d k : Nat} {st X : AS} (h : Ev d t_L_law__b2636 st (.inl (k + 1)) X) : Ev d t_L_law__b2649 st (.inl k) X := by
  unfold t_L_law__b2649
  exact up_o h
theorem uo_40 {d k : Nat} {st X : AS} (h : Ev d t_L_law__b2649 st (.inl (k + 1)) X) : Ev d t_L_law__b2674 st (.inl k) X := by
  unfold t_L_law__b2674
  exact up_o h
theorem uo_41 {d k : Nat} {st X : AS} (h : Ev d t_L_law__b2674 st (.inl (k + 1)) X) : Ev d t_L_law__b2699 st (.inl k) X := by
  unfold t_L_law__b2699
  exact up_o h
theorem lu_0 {d ix : Nat} {M : MM} (hR : R M) (hx : nx M + 6 < 900000) (hd : 200 ≤ d) (hL : ix + 9 ≤ sL M) (h4 : sL M ≤ 4608) : ∃ K, Ev d t_L_law__b2699 ([.ref 2000000, .ref 0, .ref 53, .ref 547, .int (nI ix), .retAddr 0, .retAddr 0, .retAddr 0], [.int (nI 0)], toH M) (.inl 0) ([.ref 2000000, .ref 0, .ref 53, .ref 547, .int (nI ix), .retAddr 0, .retAddr 0, .retAddr 0], [], toH K) ∧ R K ∧ Rm M K := by
  obtain ⟨K, g, hK, hm⟩ := lc_0 (ix := ix) hR hx hd hL h4
  exact ⟨K, uo_41 (uo_40 (uo_39 (uo_38 (uo_37 (uo_36 (uo_35 (uo_34 (uo_33 (uo_32 (uo_31 (uo_30 (uo_29 (uo_28 (uo_27 (uo_26 (uo_25 (uo_24 (uo_23 (uo_22 (uo_21 (uo_20 (uo_19 (uo_18 (uo_17 (uo_16 (uo_15 (uo_14 (uo_13 (uo_12 (uo_11 (uo_10 (uo_9 (uo_8 (uo_7 (uo_6 (uo_5 (uo_4 (uo_3 (uo_2 (uo_1 (g))))))))))))))))))))))))))))))))))))))))), hK, hm⟩
theorem lu_1 {d ix : Nat} {M : MM} (hR : R M) (hx : nx M + 6 < 900000) (hd : 200 ≤ d) (hL : ix + 9 ≤ sL M) (h4 : sL M ≤ 4608) : ∃ K, Ev d t_L_law__b2699 ([.ref 2000000, .ref 0, .ref 53, .ref 547, .int (nI ix), .retAddr 0, .retAddr 0, .retAddr 0], [.int (nI 1)], toH M) (.inl 0) ([.ref 2000000, .ref 0, .ref 53, .ref 547, .int (nI ix), .retAddr 0, .retAddr 0, .retAddr 0], [], toH K) ∧ R K ∧ Rm M K := by
  obtain ⟨K, g, hK, hm⟩ := lc_1 (ix := ix) hR hx hd hL h4
  exact ⟨K, uo_41 (uo_40 (uo_39 (uo_38 (uo_37 (uo_36 (uo_35 (uo_34 (uo_33 (uo_32 (uo_31 (uo_30 (uo_29 (uo_28 (uo_27 (uo_26 (uo_25 (uo_24 (uo_23 (uo_22 (uo_21 (uo_20 (uo_19 (uo_18 (uo_17 (uo_16 (uo_15 (uo_14 (uo_13 (uo_12 (uo_11 (uo_10 (uo_9 (uo_8 (uo_7 (uo_6 (uo_5 (uo_4 (uo_3 (uo_2 (g)))))))))))))))))))))))))))))))))))))))), hK, hm⟩
theorem lu_2 {d ix : Nat} {M : MM} (hR : R M) (hx : nx M + 6 < 900000) (hd : 200 ≤ d) (hL : ix + 9 ≤ sL M) (h4 : sL M ≤ 4608) : ∃ K, Ev d t_L_law__b2699 ([.ref 2000000, .ref 0, .ref 53, .ref 547, .int (nI ix), .retAddr 0, .retAddr 0, .retAddr 0], [.int (nI 2)], toH M) (.inl 0) ([.ref 2000000, .ref 0, .ref 53, .ref 547, .int (nI ix), .retAddr 0, .retAddr 0, .retAddr 0], [], toH K) ∧ R K ∧ Rm M K := by
  obtain ⟨K, g, hK, hm⟩ := lc_2 (ix := ix) hR hx hd hL h4
  exact ⟨K, uo_41 (uo_40 (uo_39 (uo_38 (uo_37 (uo_36 (uo_35 (uo_34 (uo_33 (uo_32 (uo_31 (uo_30 (uo_29 (uo_28 (uo_27 (uo_26 (uo_25 (uo_24 (uo_23 (uo_22 (uo_21 (uo_20 (uo_19 (uo_18 (uo_17 (uo_16 (uo_15 (uo_14 (uo_13 (uo_12 (uo_11 (uo_10 (uo_9 (uo_8 (uo_7 (uo_6 (uo_5 (uo_4 (uo_3 (g))))))))))))))))))))))))))))))))))))))), hK, hm⟩
theorem lu_3 {d ix : Nat} {M : MM} (hR : R M) (hx : nx M + 6 < 900000) (hd : 200 ≤ d) (hL : ix + 9 ≤ sL M) (h4 : sL M ≤ 4608) : ∃ K, Ev d t_L_law__b2699 ([.ref 2000000, .ref 0, .ref 53, .ref 547, .int (nI ix), .retAddr 0, .retAddr 0, .retAddr 0], [.int (nI 3)], toH M) (.inl 0) ([.ref 2000000, .ref 0, .ref 53, .ref 547, .int (nI ix), .retAddr 0, .retAddr 0, .retAddr 0], [], toH K) ∧ R K ∧ Rm M K := by
  obtain ⟨K, g, hK, hm⟩ := lc_3 (ix := ix) hR hx hd hL h4
  exact ⟨K, uo_41 (uo_40 (uo_39 (uo_38 (uo_37 (uo_36 (uo_35 (uo_34 (uo_33 (uo_32 (uo_31 (uo_30 (uo_29 (uo_28 (uo_27 (uo_26 (uo_25 (uo_24 (uo_23 (uo_22 (uo_21 (uo_20 (uo_19 (uo_18 (uo_17 (uo_16 (uo_15 (uo_14 (uo_13 (uo_12 (uo_11 (uo_10 (uo_9 (uo_8 (uo_7 (uo_6 (uo_5 (uo_4 (g)))))))))))))))))))))))))))))))))))))), hK, hm⟩
theorem lu_4 {d ix : Nat} {M : MM} (hR : R M) (hx : nx M + 6 < 900000) (hd : 200 ≤ d) (hL : ix + 9 ≤ sL M) (h4 : sL M ≤ 4608) : ∃ K, Ev d t_L_law__b2699 ([.ref 2000000, .ref 0, .ref 53, .ref 547, .int (nI ix), .retAddr 0, .retAddr 0, .retAddr 0], [.int (nI 4)], toH M) (.inl 0) ([.ref 2000000, .ref 0, .ref 53, .ref 547, .int (nI ix), .retAddr 0, .retAddr 0, .retAddr 0], [], toH K) ∧ R K ∧ Rm M K := by
  obtain ⟨K, g, hK, hm⟩ := lc_4 (ix := ix) hR hx hd hL h4
  exact ⟨K, uo_41 (uo_40 (uo_39 (uo_38 (uo_37 (uo_36 (uo_35 (uo_34 (uo_33 (uo_32 (uo_31 (uo_30 (uo_29 (uo_28 (uo_27 (uo_26 (uo_25 (uo_24 (uo_23 (uo_22 (uo_21 (uo_20 (uo_19 (uo_18 (uo_17 (uo_16 (uo_15 (uo_14 (uo_13 (uo_12 (uo_11 (uo_10 (uo_9 (uo_8 (uo_7 (uo_6 (uo_5 (g))))))))))))))))))))))))))))))))))))), hK, hm⟩
theorem lu_5 {d ix : Nat} {M : MM} (hR : R M) (hx : nx M + 6 < 900000) (hd : 200 ≤ d) (hL : ix + 9 ≤ sL M) (h4 : sL M ≤ 4608) : ∃ K, Ev d t_L_law__b2699 ([.ref 2000000, .ref 0, .ref 53, .ref 547, .int (nI ix), .retAddr 0, .retAddr 0, .retAddr 0], [.int (nI 5)], toH M) (.inl 0) ([.ref 2000000, .ref 0, .ref 53, .ref 547, .int (nI ix), .retAddr 0, .retAddr 0, .retAddr 0], [], toH K) ∧ R K ∧ Rm M K := by
  obtain ⟨K, g, hK, hm⟩ := lc_5 (ix := ix) hR hx hd hL h4
  exact ⟨K, uo_41 (uo_40 (uo_39 (uo_38 (uo_37 (uo_36 (uo_35 (uo_34 (uo_33 (uo_32 (uo_31 (uo_30 (uo_29 (uo_28 (uo_27 (uo_26 (uo_25 (uo_24 (uo_23 (uo_22 (uo_21 (uo_20 (uo_19 (uo_18 (uo_17 (uo_16 (uo_15 (uo_14 (uo_13 (uo_12 (uo_11 (uo_10 (uo_9 (uo_8 (uo_7 (uo_6 (g)))))))))))))))))))))))))))))))))))), hK, hm⟩
theorem lu_6 {d ix : Nat} {M : MM} (hR : R M) (hx : nx M + 6 < 900000) (hd : 200 ≤ d) (hL : ix + 9 ≤ sL M) (h4 : sL M ≤ 4608) : ∃ K, Ev d t_L_law__b2699 ([.ref 2000000, .ref 0, .ref 53, .ref 547, .int (nI ix), .retAddr 0, .retAddr 0, .retAddr 0], [.int (nI 6)], toH M) (.inl 0) ([.ref 2000000, .ref 0, .ref 53, .ref 547, .int (nI ix), .retAddr 0, .retAddr 0, .retAddr 0], [], toH K) ∧ R K ∧ Rm M K := by
  obtain ⟨K, g, hK, hm⟩ := lc_6 (ix := ix) hR hx hd hL h4
  exact ⟨K, uo_41 (uo_40 (uo_39 (uo_38 (uo_37 (uo_36 (uo_35 (uo_34 (uo_33 (uo_32 (uo_31 (uo_30 (uo_29 (uo_28 (uo_27 (uo_26 (uo_25 (uo_24 (uo_23 (uo_22 (uo_21 (uo_20 (uo_19 (uo_18 (uo_17 (uo_16 (uo_15 (uo_14 (uo_13 (uo_12 (uo_11 (uo_10 (uo_9 (uo_8 (uo_7 (g))))))))))))))))))))))))))))))))))), hK, hm⟩
theorem lu_7 {d ix : Nat} {M : MM} (hR : R M) (hx : nx M + 6 < 900000) (hd : 200 ≤ d) (hL : ix + 9 ≤ sL M) (h4 : sL M ≤ 4608) : ∃ K, Ev d t_L_law__b2699 ([.ref 2000000, .ref 0, .ref 53, .ref 547, .int (nI ix), .retAddr 0, .retAddr 0, .retAddr 0], [.int (nI 7)], toH M) (.inl 0) ([.ref 2000000, .ref 0, .ref 53, .ref 547, .int (nI ix), .retAddr 0, .retAddr 0, .retAddr 0], [], toH K) ∧ R K ∧ Rm M K := by
  obtain ⟨K, g, hK, hm⟩ := lc_7 (ix := ix) hR hx hd hL h4
  exact ⟨K, uo_41 (uo_40 (uo_39 (uo_38 (uo_37 (uo_36 (uo_35 (uo_34 (uo_33 (uo_32 (uo_31 (uo_30 (uo_29 (uo_28 (uo_27 (uo_26 (uo_25 (uo_24 (uo_23 (uo_22 (uo_21 (uo_20 (uo_19 (uo_18 (uo_17 (uo_16 (uo_15 (uo_14 (uo_13 (uo_12 (uo_11 (uo_10 (uo_9 (uo_8 (g)))))))))))))))))))))))))))))))))), hK, hm⟩
theorem lu_8 {d ix : Nat} {M : MM} (hR : R M) (hx : nx M + 6 < 900000) (hd : 200 ≤ d) (hL : ix + 9 ≤ sL M) (h4 : sL M ≤ 4608) : ∃ K, Ev d t_L_law__b2699 ([.ref 2000000, .ref 0, .ref 53, .ref 547, .int (nI ix), .retAddr 0, .retAddr 0, .retAddr 0], [.int (nI 8)], toH M) (.inl 0) ([.ref 2000000, .ref 0, .ref 53, .ref 547, .int (nI ix), .retAddr 0, .retAddr 0, .retAddr 0], [], toH K) ∧ R K ∧ Rm M K := by
  obtain ⟨K, g, hK, hm⟩ := lc_8 (ix := ix) hR hx hd hL h4
  exact ⟨K, uo_41 (uo_40 (uo_39 (uo_38 (uo_37 (uo_36 (uo_35 (uo_34 (uo_33 (uo_32 (uo_31 (uo_30 (uo_29 (uo_28 (uo_27 (uo_26 (uo_25 (uo_24 (uo_23 (uo_22 (uo_21 (uo_20 (uo_19 (uo_18 (uo_17 (uo_16 (uo_15 (uo_14 (uo_13 (uo_12 (uo_11 (uo_10 (uo_9 (g))))))))))))))))))))))))))))))))), hK, hm⟩
theorem lu_9 {d ix : Nat} {M : MM} (hR : R M) (hx : nx M + 6 < 900000) (hd : 200 ≤ d) (hL : ix + 9 ≤ sL M) (h4 : sL M ≤ 4608) : ∃ K, Ev d t_L_law__b2699 ([.ref 2000000, .ref 0, .ref 53, .ref 547, .int (nI ix), .retAddr 0, .retAddr 0, .retAddr 0], [.int (nI 9)], toH M) (.inl 0) ([.ref 2000000, .ref 0, .ref 53, .ref 547, .int (nI ix), .retAddr 0, .retAddr 0, .retAddr 0], [], toH K) ∧ R K ∧ Rm M K := by
  obtain ⟨K, g, hK, hm⟩ := lc_9 (ix := ix) hR hx hd hL h4
  exact ⟨K, uo_41 (uo_40 (uo_39 (uo_38 (uo_37 (uo_36 (uo_35 (uo_34 (uo_33 (uo_32 (uo_31 (uo_30 (uo_29 (uo_28 (uo_27 (uo_26 (uo_25 (uo_24 (uo_23 (uo_22 (uo_21 (uo_20 (uo_19 (uo_18 (uo_17 (uo_16 (uo_15 (uo_14 (uo_13 (uo_12 (uo_11 (uo_10 (g)))))))))))))))))))))))))))))))), hK, hm⟩
theorem lu_10 {d ix : Nat} {M : MM} (hR : R M) (hx : nx M + 6 < 900000) (hd : 200 ≤ d) (hL : ix + 9 ≤ sL M) (h4 : sL M ≤ 4608) : ∃ K, Ev d t_L_law__b2699 ([.ref 2000000, .ref 0, .ref 53, .ref 547, .int (nI ix), .retAddr 0, .retAddr 0, .retAddr 0], [.int (nI 10)], toH M) (.inl 0) ([.ref 2000000, .ref 0, .ref 53, .ref 547, .int (nI ix), .retAddr 0, .retAddr 0, .retAddr 0], [], toH K) ∧ R K ∧ Rm M K := by
  obtain ⟨K, g, hK, hm⟩ := lc_10 (ix := ix) hR hx hd hL h4
  exact ⟨K, uo_41 (uo_40 (uo_39 (uo_38 (uo_37 (uo_36 (uo_35 (uo_34 (uo_33 (uo_32 (uo_31 (uo_30 (uo_29 (uo_28 (uo_27 (uo_26 (uo_25 (uo_24 (uo_23 (uo_22 (uo_21 (uo_20 (uo_19 (uo_18 (uo_17 (uo_16 (uo_15 (uo_14 (uo_13 (uo_12 (uo_11 (g))))))))))))))))))))))))))))))), hK, hm⟩
theorem lu_11 {d ix : Nat} {M : MM} (hR : R M) (hx : nx M + 6 < 900000) (hd : 200 ≤ d) (hL : ix + 9 ≤ sL M) (h4 : sL M ≤ 4608) : ∃ K, Ev d t_L_law__b2699 ([.ref 2000000, .ref 0, .ref 53, .ref 547, .int (nI ix), .retAddr 0, .retAddr 0, .retAddr 0], [.int (nI 11)], toH M) (.inl 0) ([.ref 2000000, .ref 0, .ref 53, .ref 547, .int (nI ix), .retAddr 0, .retAddr 0, .retAddr 0], [], toH K) ∧ R K ∧ Rm M K := by
  obtain ⟨K, g, hK, hm⟩ := lc_11 (ix := ix) hR hx hd hL h4
  exact ⟨K, uo_41 (uo_40 (uo_39 (uo_38 (uo_37 (uo_36 (uo_35 (uo_34 (uo_33 (uo_32 (uo_31 (uo_30 (uo_29 (uo_28 (uo_27 (uo_26 (uo_25 (uo_24 (uo_23 (uo_22 (uo_21 (uo_20 (uo_19 (uo_18 (uo_17 (uo_16 (uo_15 (uo_14 (uo_13 (uo_12 (g)))))))))))))))))))))))))))))), hK, hm⟩
theorem lu_12 {d ix : Nat} {M : MM} (hR : R M) (hx : nx M + 6 < 900000) (hd : 200 ≤ d) (hL : ix + 9 ≤ sL M) (h4 : sL M ≤ 4608) : ∃ K, Ev d t_L_law__b2699 ([.ref 2000000, .ref 0, .ref 53, .ref 547, .int (nI ix), .retAddr 0, .retAddr 0, .retAddr 0], [.int (nI 12)], toH M) (.inl 0) ([.ref 2000000, .ref 0, .ref 53, .ref 547, .int (nI ix), .retAddr 0, .retAddr 0, .retAddr 0], [], toH K) ∧ R K ∧ Rm M K := by
  obtain ⟨K, g, hK, hm⟩ := lc_12 (ix := ix) hR hx hd hL h4
  exact ⟨K, uo_41 (uo_40 (uo_39 (uo_38 (uo_37 (uo_36 (uo_35 (uo_34 (uo_33 (uo_32 (uo_31 (uo_30 (uo_29 (uo_28 (uo_27 (uo_26 (uo_25 (uo_24 (uo_23 (uo_22 (uo_21 (uo_20 (uo_19 (uo_18 (uo_17 (uo_16 (uo_15 (uo_14 (uo_13 (g))))))))))))))))))))))))))))), hK, hm⟩
theorem lu_13 {d ix : Nat} {M : MM} (hR : R M) (hx : nx M + 6 < 900000) (hd : 200 ≤ d) (hL : ix + 9 ≤ sL M) (h4 : sL M ≤ 4608) : ∃ K, Ev d t_L_law__b2699 ([.ref 2000000, .ref 0, .ref 53, .ref 547, .int (nI ix), .retAddr 0, .retAddr 0, .retAddr 0], [.int (nI 13)], toH M) (.inl 0) ([.ref 2000000, .ref 0, .ref 53, .ref 547, .int (nI ix), .retAddr 0, .retAddr 0, .retAddr 0], [], toH K) ∧ R K ∧ Rm M K := by
  obtain ⟨K, g, hK, hm⟩ := lc_13 (ix := ix) hR hx hd hL h4
  exact ⟨K, uo_41 (uo_40 (uo_39 (uo_38 (uo_37 (uo_36 (uo_35 (uo_34 (uo_33 (uo_32 (uo_31 (uo_30 (uo_29 (uo_28 (uo_27 (uo_26 (uo_25 (uo_24 (uo_23 (uo_22 (uo_21 (uo_20 (uo_19 (uo_18 (uo_17 (uo_16 (uo_15 (uo_14 (g)))))))))))))))))))))))))))), hK, hm⟩
theorem lu_14 {d ix : Nat} {M : MM} (hR : R M) (hx : nx M + 6 < 900000) (hd : 200 ≤ d) (hL : ix + 9 ≤ sL M) (h4 : sL M ≤ 4608) : ∃ K, Ev d t_L_law__b2699 ([.ref 2000000, .ref 0, .ref 53, .ref 547, .int (nI ix), .retAddr 0, .retAddr 0, .retAddr 0], [.int (nI 14)], toH M) (.inl 0) ([.ref 2000000, .ref 0, .ref 53, .ref 547, .int (nI ix), .retAddr 0, .retAddr 0, .retAddr 0], [], toH K) ∧ R K ∧ Rm M K := by
  obtain ⟨K, g, hK, hm⟩ := lc_14 (ix := ix) hR hx hd hL h4
  exact ⟨K, uo_41 (uo_40 (uo_39 (uo_38 (uo_37 (uo_36 (uo_35 (uo_34 (uo_33 (uo_32 (uo_31 (uo_30 (uo_29 (uo_28 (uo_27 (uo_26 (uo_25 (uo_24 (uo_23 (uo_22 (uo_21 (uo_20 (uo_19 (uo_18 (uo_17 (uo_16 (uo_15 (g))))))))))))))))))))))))))), hK, hm⟩
theorem lu_15 {d ix : Nat} {M : MM} (hR : R M) (hx : nx M + 6 < 900000) (hd : 200 ≤ d) (hL : ix + 9 ≤ sL M) (h4 : sL M ≤ 4608) : ∃ K, Ev d t_L_law__b2699 ([.ref 2000000, .ref 0, .ref 53, .ref 547, .int (nI ix), .retAddr 0, .retAddr 0, .retAddr 0], [.int (nI 15)], toH M) (.inl 0) ([.ref 2000000, .ref 0, .ref 53, .ref 547, .int (nI ix), .retAddr 0, .retAddr 0, .retAddr 0], [], toH K) ∧ R K ∧ Rm M K := by
  obtain ⟨K, g, hK, hm⟩ := lc_15 (ix := ix) hR hx hd hL h4
  exact ⟨K, uo_41 (uo_40 (uo_39 (uo_38 (uo_37 (uo_36 (uo_35 (uo_34 (uo_33 (uo_32 (uo_31 (uo_30 (uo_29 (uo_28 (uo_27 (uo_26 (uo_25 (uo_24 (uo_23 (uo_22 (uo_21 (uo_20 (uo_19 (uo_18 (uo_17 (uo_16 (g)))))))))))))))))))))))))), hK, hm⟩
theorem lu_16 {d ix : Nat} {M : MM} (hR : R M) (hx : nx M + 6 < 900000) (hd : 200 ≤ d) (hL : ix + 9 ≤ sL M) (h4 : sL M ≤ 4608) : ∃ K, Ev d t_L_law__b2699 ([.ref 2000000, .ref 0, .ref 53, .ref 547, .int (nI ix), .retAddr 0, .retAddr 0, .retAddr 0], [.int (nI 16)], toH M) (.inl 0) ([.ref 2000000, .ref 0, .ref 53, .ref 547, .int (nI ix), .retAddr 0, .retAddr 0, .retAddr 0], [], toH K) ∧ R K ∧ Rm M K := by
  obtain ⟨K, g, hK, hm⟩ := lc_16 (ix := ix) hR hx hd hL h4
  exact ⟨K, uo_41 (uo_40 (uo_39 (uo_38 (uo_37 (uo_36 (uo_35 (uo_34 (uo_33 (uo_32 (uo_31 (uo_30 (uo_29 (uo_28 (uo_27 (uo_26 (uo_25 (uo_24 (uo_23 (uo_22 (uo_21 (uo_20 (uo_19 (uo_18 (uo_17 (g))))))))))))))))))))))))), hK, hm⟩
theorem lu_17 {d ix : Nat} {M : MM} (hR : R M) (hx : nx M + 6 < 900000) (hd : 200 ≤ d) (hL : ix + 9 ≤ sL M) (h4 : sL M ≤ 4608) : ∃ K, Ev d t_L_law__b2699 ([.ref 2000000, .ref 0, .ref 53, .ref 547, .int (nI ix), .retAddr 0, .retAddr 0, .retAddr 0], [.int (nI 17)], toH M) (.inl 0) ([.ref 2000000, .ref 0, .ref 53, .ref 547, .int (nI ix), .retAddr 0, .retAddr 0, .retAddr 0], [], toH K) ∧ R K ∧ Rm M K := by
  obtain ⟨K, g, hK, hm⟩ := lc_17 (ix := ix) hR hx hd hL h4
  exact ⟨K, uo_41 (uo_40 (uo_39 (uo_38 (uo_37 (uo_36 (uo_35 (uo_34 (uo_33 (uo_32 (uo_31 (uo_30 (uo_29 (uo_28 (uo_27 (uo_26 (uo_25 (uo_24 (uo_23 (uo_22 (uo_21 (uo_20 (uo_19 (uo_18 (g)))))))))))))))))))))))), hK, hm⟩
theorem lu_18 {d ix : Nat} {M : MM} (hR : R M) (hx : nx M + 6 < 900000) (hd : 200 ≤ d) (hL : ix + 9 ≤ sL M) (h4 : sL M ≤ 4608) : ∃ K, Ev d t_L_law__b2699 ([.ref 2000000, .ref 0, .ref 53, .ref 547, .int (nI ix), .retAddr 0, .retAddr 0, .retAddr 0], [.int (nI 18)], toH M) (.inl 0) ([.ref 2000000, .ref 0, .ref 53, .ref 547, .int (nI ix), .retAddr 0, .retAddr 0, .retAddr 0], [], toH K) ∧ R K ∧ Rm M K := by
  obtain ⟨K, g, hK, hm⟩ := lc_18 (ix := ix) hR hx hd hL h4
  exact ⟨K, uo_41 (uo_40 (uo_39 (uo_38 (uo_37 (uo_36 (uo_35 (uo_34 (uo_33 (uo_32 (uo_31 (uo_30 (uo_29 (uo_28 (uo_27 (uo_26 (uo_25 (uo_24 (uo_23 (uo_22 (uo_21 (uo_20 (uo_19 (g))))))))))))))))))))))), hK, hm⟩
theorem lu_19 {d ix : Nat} {M : MM} (hR : R M) (hx : nx M + 6 < 900000) (hd : 200 ≤ d) (hL : ix + 9 ≤ sL M) (h4 : sL M ≤ 4608) : ∃ K, Ev d t_L_law__b2699 ([.ref 2000000, .ref 0, .ref 53, .ref 547, .int (nI ix), .retAddr 0, .retAddr 0, .retAddr 0], [.int (nI 19)], toH M) (.inl 0) ([.ref 2000000, .ref 0, .ref 53, .ref 547, .int (nI ix), .retAddr 0, .retAddr 0, .retAddr 0], [], toH K) ∧ R K ∧ Rm M K := by
  obtain ⟨K, g, hK, hm⟩ := lc_19 (ix := ix) hR hx hd hL h4
  exact ⟨K, uo_41 (uo_40 (uo_39 (uo_38 (uo_37 (uo_36 (uo_35 (uo_34 (uo_33 (uo_32 (uo_31 (uo_30 (uo_29 (uo_28 (uo_27 (uo_26 (uo_25 (uo_24 (uo_23 (uo_22 (uo_21 (uo_20 (g)))))))))))))))))))))), hK, hm⟩
theorem lu_20 {d ix : Nat} {M : MM} (hR : R M) (hx : nx M + 6 < 900000) (hd : 200 ≤ d) (hL : ix + 9 ≤ sL M) (h4 : sL M ≤ 4608) : ∃ K, Ev d t_L_law__b2699 ([.ref 2000000, .ref 0, .ref 53, .ref 547, .int (nI ix), .retAddr 0, .retAddr 0, .retAddr 0], [.int (nI 20)], toH M) (.inl 0) ([.ref 2000000, .ref 0, .ref 53, .ref 547, .int (nI ix), .retAddr 0, .retAddr 0, .retAddr 0], [], toH K) ∧ R K ∧ Rm M K := by
  obtain ⟨K, g, hK, hm⟩ := lc_20 (ix := ix) hR hx hd hL h4
  exact ⟨K, uo_41 (uo_40 (uo_39 (uo_38 (uo_37 (uo_36 (uo_35 (uo_34 (uo_33 (uo_32 (uo_31 (uo_30 (uo_29 (uo_28 (uo_27 (uo_26 (uo_25 (uo_24 (uo_23 (uo_22 (uo_21 (g))))))))))))))))))))), hK, hm⟩
theorem lu_21 {d ix : Nat} {M : MM} (hR : R M) (hx : nx M + 6 < 900000) (hd : 200 ≤ d) (hL : ix + 9 ≤ sL M) (h4 : sL M ≤ 4608) : ∃ K, Ev d t_L_law__b2699 ([.ref 2000000, .ref 0, .ref 53, .ref 547, .int (nI ix), .retAddr 0, .retAddr 0, .retAddr 0], [.int (nI 21)], toH M) (.inl 0) ([.ref 2000000, .ref 0, .ref 53, .ref 547, .int (nI ix), .retAddr 0, .retAddr 0, .retAddr 0], [], toH K) ∧ R K ∧ Rm M K := by
  obtain ⟨K, g, hK, hm⟩ := lc_21 (ix := ix) hR hx hd hL h4
  exact ⟨K, uo_41 (uo_40 (uo_39 (uo_38 (uo_37 (uo_36 (uo_35 (uo_34 (uo_33 (uo_32 (uo_31 (uo_30 (uo_29 (uo_28 (uo_27 (uo_26 (uo_25 (uo_24 (uo_23 (uo_22 (g)))))))))))))))))))), hK, hm⟩
theorem lu_22 {d ix : Nat} {M : MM} (hR : R M) (hx : nx M + 6 < 900000) (hd : 200 ≤ d) (hL : ix + 9 ≤ sL M) (h4 : sL M ≤ 4608) : ∃ K, Ev d t_L_law__b2699 ([.ref 2000000, .ref 0, .ref 53, .ref 547, .int (nI ix), .retAddr 0, .retAddr 0, .retAddr 0], [.int (nI 22)], toH M) (.inl 0) ([.ref 2000000, .ref 0, .ref 53, .ref 547, .int (nI ix), .retAddr 0, .retAddr 0, .retAddr 0], [], toH K) ∧ R K ∧ Rm M K := by
  obtain ⟨K, g, hK, hm⟩ := lc_22 (ix := ix) hR hx hd hL h4
  exact ⟨K, uo_41 (uo_40 (uo_39 (uo_38 (uo_37 (uo_36 (uo_35 (uo_34 (uo_33 (uo_32 (uo_31 (uo_30 (uo_29 (uo_28 (uo_27 (uo_26 (uo_25 (uo_24 (uo_23 (g))))))))))))))))))), hK, hm⟩
theorem lu_23 {d ix : Nat} {M : MM} (hR : R M) (hx : nx M + 6 < 900000) (hd : 200 ≤ d) (hL : ix + 9 ≤ sL M) (h4 : sL M ≤ 4608) : ∃ K, Ev d t_L_law__b2699 ([.ref 2000000, .ref 0, .ref 53, .ref 547, .int (nI ix), .retAddr 0, .retAddr 0, .retAddr 0], [.int (nI 23)], toH M) (.inl 0) ([.ref 2000000, .ref 0, .ref 53, .ref 547, .int (nI ix), .retAddr 0, .retAddr 0, .retAddr 0], [], toH K) ∧ R K ∧ Rm M K := by
  obtain ⟨K, g, hK, hm⟩ := lc_23 (ix := ix) hR hx hd hL h4
  exact ⟨K, uo_41 (uo_40 (uo_39 (uo_38 (uo_37 (uo_36 (uo_35 (uo_34 (uo_33 (uo_32 (uo_31 (uo_30 (uo_29 (uo_28 (uo_27 (uo_26 (uo_25 (uo_24 (g)))))))))))))))))), hK, hm⟩
theorem lu_24 {d ix : Nat} {M : MM} (hR : R M) (hx : nx M + 6 < 900000) (hd : 200 ≤ d) (hL : ix + 9 ≤ sL M) (h4 : sL M ≤ 4608) : ∃ K, Ev d t_L_law__b2699 ([.ref 2000000, .ref 0, .ref 53, .ref 547, .int (nI ix), .retAddr 0, .retAddr 0, .retAddr 0], [.int (nI 24)], toH M) (.inl 0) ([.ref 2000000, .ref 0, .ref 53, .ref 547, .int (nI ix), .retAddr 0, .retAddr 0, .retAddr 0], [], toH K) ∧ R K ∧ Rm M K := by
  obtain ⟨K, g, hK, hm⟩ := lc_24 (ix := ix) hR hx hd hL h4
  exact ⟨K, uo_41 (uo_40 (uo_39 (uo_38 (uo_37 (uo_36 (uo_35 (uo_34 (uo_33 (uo_32 (uo_31 (uo_30 (uo_29 (uo_28 (uo_27 (uo_26 (uo_25 (g))))))))))))))))), hK, hm⟩
theorem lu_25 {d ix : Nat} {M : MM} (hR : R M) (hx : nx M + 6 < 900000) (hd : 200 ≤ d) (hL : ix + 9 ≤ sL M) (h4 : sL M ≤ 4608) : ∃ K, Ev d t_L_law__b2699 ([.ref 2000000, .ref 0, .ref 53, .ref 547, .int (nI ix), .retAddr 0, .retAddr 0, .retAddr 0], [.int (nI 25)], toH M) (.inl 0) ([.ref 2000000, .ref 0, .ref 53, .ref 547, .int (nI ix), .retAddr 0, .retAddr 0, .retAddr 0], [], toH K) ∧ R K ∧ Rm M K := by
  obtain ⟨K, g, hK, hm⟩ := lc_25 (ix := ix) hR hx hd hL h4
  exact ⟨K, uo_41 (uo_40 (uo_39 (uo_38 (uo_37 (uo_36 (uo_35 (uo_34 (uo_33 (uo_32 (uo_31 (uo_30 (uo_29 (uo_28 (uo_27 (uo_26 (g)))))))))))))))), hK, hm⟩
theorem lu_26 {d ix : Nat} {M : MM} (hR : R M) (hx : nx M + 6 < 900000) (hd : 200 ≤ d) (hL : ix + 9 ≤ sL M) (h4 : sL M ≤ 4608) : ∃ K, Ev d t_L_law__b2699 ([.ref 2000000, .ref 0, .ref 53, .ref 547, .int (nI ix), .retAddr 0, .retAddr 0, .retAddr 0], [.int (nI 26)], toH M) (.inl 0) ([.ref 2000000, .ref 0, .ref 53, .ref 547, .int (nI ix), .retAddr 0, .retAddr 0, .retAddr 0], [], toH K) ∧ R K ∧ Rm M K := by
  obtain ⟨K, g, hK, hm⟩ := lc_26 (ix := ix) hR hx hd hL h4
  exact ⟨K, uo_41 (uo_40 (uo_39 (uo_38 (uo_37 (uo_36 (uo_35 (uo_34 (uo_33 (uo_32 (uo_31 (uo_30 (uo_29 (uo_28 (uo_27 (g))))))))))))))), hK, hm⟩
theorem lu_27 {d ix : Nat} {M : MM} (hR : R M) (hx : nx M + 6 < 900000) (hd : 200 ≤ d) (hL : ix + 9 ≤ sL M) (h4 : sL M ≤ 4608) : ∃ K, Ev d t_L_law__b2699 ([.ref 2000000, .ref 0, .ref 53, .ref 547, .int (nI ix), .retAddr 0, .retAddr 0, .retAddr 0], [.int (nI 27)], toH M) (.inl 0) ([.ref 2000000, .ref 0, .ref 53, .ref 547, .int (nI ix), .retAddr 0, .retAddr 0, .retAddr 0], [], toH K) ∧ R K ∧ Rm M K := by
  obtain ⟨K, g, hK, hm⟩ := lc_27 (ix := ix) hR hx hd hL h4
  exact ⟨K, uo_41 (uo_40 (uo_39 (uo_38 (uo_37 (uo_36 (uo_35 (uo_34 (uo_33 (uo_32 (uo_31 (uo_30 (uo_29 (uo_28 (g)))))))))))))), hK, hm⟩
theorem lu_28 {d ix : Nat} {M : MM} (hR : R M) (hx : nx M + 6 < 900000) (hd : 200 ≤ d) (hL : ix + 9 ≤ sL M) (h4 : sL M ≤ 4608) : ∃ K, Ev d t_L_law__b2699 ([.ref 2000000, .ref 0, .ref 53, .ref 547, .int (nI ix), .retAddr 0, .retAddr 0, .retAddr 0], [.int (nI 28)], toH M) (.inl 0) ([.ref 2000000, .ref 0, .ref 53, .ref 547, .int (nI ix), .retAddr 0, .retAddr 0, .retAddr 0], [], toH K) ∧ R K ∧ Rm M K := by
  obtain ⟨K, g, hK, hm⟩ := lc_28 (ix := ix) hR hx hd hL h4
  exact ⟨K, uo_41 (uo_40 (uo_39 (uo_38 (uo_37 (uo_36 (uo_35 (uo_34 (uo_33 (uo_32 (uo_31 (uo_30 (uo_29 (g))))))))))))), hK, hm⟩
theorem lu_29 {d ix : Nat} {M : MM} (hR : R M) (hx : nx M + 6 < 900000) (hd : 200 ≤ d) (hL : ix + 9 ≤ sL M) (h4 : sL M ≤ 4608) : ∃ K, Ev d t_L_law__b2699 ([.ref 2000000, .ref 0, .ref 53, .ref 547, .int (nI ix), .retAddr 0, .retAddr 0, .retAddr 0], [.int (nI 29)], toH M) (.inl 0) ([.ref 2000000, .ref 0, .ref 53, .ref 547, .int (nI ix), .retAddr 0, .retAddr 0, .retAddr 0], [], toH K) ∧ R K ∧ Rm M K := by
  obtain ⟨K, g, hK, hm⟩ := lc_29 (ix := ix) hR hx hd hL h4
  exact ⟨K, uo_41 (uo_40 (uo_39 (uo_38 (uo_37 (uo_36 (uo_35 (uo_34 (uo_33 (uo_32 (uo_31 (uo_30 (g)))))))))))), hK, hm⟩
theorem lu_30 {d ix : Nat} {M : MM} (hR : R M) (hx : nx M + 6 < 900000) (hd : 200 ≤ d) (hL : ix + 9 ≤ sL M) (h4 : sL M ≤ 4608) : ∃ K, Ev d t_L_law__b2699 ([.ref 2000000, .ref 0, .ref 53, .ref 547, .int (nI ix), .retAddr 0, .retAddr 0, .retAddr 0], [.int (nI 30)], toH M) (.inl 0) ([.ref 2000000, .ref 0, .ref 53, .ref 547, .int (nI ix), .retAddr 0, .retAddr 0, .retAddr 0], [], toH K) ∧ R K ∧ Rm M K := by
  obtain ⟨K, g, hK, hm⟩ := lc_30 (ix := ix) hR hx hd hL h4
  exact ⟨K, uo_41 (uo_40 (uo_39 (uo_38 (uo_37 (uo_36 (uo_35 (uo_34 (uo_33 (uo_32 (uo_31 (g))))))))))), hK, hm⟩
theorem lu_31 {d ix : Nat} {M : MM} (hR : R M) (hx : nx M + 6 < 900000) (hd : 200 ≤ d) (hL : ix + 9 ≤ sL M) (h4 : sL M ≤ 4608) : ∃ K, Ev d t_L_law__b2699 ([.ref 2000000, .ref 0, .ref 53, .ref 547, .int (nI ix), .retAddr 0, .retAddr 0, .retAddr 0], [.int (nI 31)], toH M) (.inl 0) ([.ref 2000000, .ref 0, .ref 53, .ref 547, .int (nI ix), .retAddr 0, .retAddr 0, .retAddr 0], [], toH K) ∧ R K ∧ Rm M K := by
  obtain ⟨K, g, hK, hm⟩ := lc_31 (ix := ix) hR hx hd hL h4
  exact ⟨K, uo_41 (uo_40 (uo_39 (uo_38 (uo_37 (uo_36 (uo_35 (uo_34 (uo_33 (uo_32 (g)))))))))), hK, hm⟩
theorem lu_32 {d ix : Nat} {M : MM} (hR : R M) (hx : nx M + 6 < 900000) (hd : 200 ≤ d) (hL : ix + 9 ≤ sL M) (h4 : sL M ≤ 4608) : ∃ K, Ev d t_L_law__b2699 ([.ref 2000000, .ref 0, .ref 53, .ref 547, .int (nI ix), .retAddr 0, .retAddr 0, .retAddr 0], [.int (nI 32)], toH M) (.inl 0) ([.ref 2000000, .ref 0, .ref 53, .ref 547, .int (nI ix), .retAddr 0, .retAddr 0, .retAddr 0], [], toH K) ∧ R K ∧ Rm M K := by
  obtain ⟨K, g, hK, hm⟩ := lc_32 (ix := ix) hR hx hd hL h4
  exact ⟨K, uo_41 (uo_40 (uo_39 (uo_38 (uo_37 (uo_36 (uo_35 (uo_34 (uo_33 (g))))))))), hK, hm⟩
theorem lu_33 {d ix : Nat} {M : MM} (hR : R M) (hx : nx M + 6 < 900000) (hd : 200 ≤ d) (hL : ix + 9 ≤ sL M) (h4 : sL M ≤ 4608) : ∃ K, Ev d t_L_law__b2699 ([.ref 2000000, .ref 0, .ref 53, .ref 547, .int (nI ix), .retAddr 0, .retAddr 0, .retAddr 0], [.int (nI 33)], toH M) (.inl 0) ([.ref 2000000, .ref 0, .ref 53, .ref 547, .int (nI ix), .retAddr 0, .retAddr 0, .retAddr 0], [], toH K) ∧ R K ∧ Rm M K := by
  obtain ⟨K, g, hK, hm⟩ := lc_33 (ix := ix) hR hx hd hL h4
  exact ⟨K, uo_41 (uo_40 (uo_39 (uo_38 (uo_37 (uo_36 (uo_35 (uo_34 (g)))))))), hK, hm⟩
theorem lu_34 {d ix : Nat} {M : MM} (hR : R M) (hx : nx M + 6 < 900000) (hd : 200 ≤ d) (hL : ix + 9 ≤ sL M) (h4 : sL M ≤ 4608) : ∃ K, Ev d t_L_law__b2699 ([.ref 2000000, .ref 0, .ref 53, .ref 547, .int (nI ix), .retAddr 0, .retAddr 0, .retAddr 0], [.int (nI 34)], toH M) (.inl 0) ([.ref 2000000, .ref 0, .ref 53, .ref 547, .int (nI ix), .retAddr 0, .retAddr 0, .retAddr 0], [], toH K) ∧ R K ∧ Rm M K := by
  obtain ⟨K, g, hK, hm⟩ := lc_34 (ix := ix) hR hx hd hL h4
  exact ⟨K, uo_41 (uo_40 (uo_39 (uo_38 (uo_37 (uo_36 (uo_35 (g))))))), hK, hm⟩
theorem lu_35 {d ix : Nat} {M : MM} (hR : R M) (hx : nx M + 6 < 900000) (hd : 200 ≤ d) (hL : ix + 9 ≤ sL M) (h4 : sL M ≤ 4608) : ∃ K, Ev d t_L_law__b2699 ([.ref 2000000, .ref 0, .ref 53, .ref 547, .int (nI ix), .retAddr 0, .retAddr 0, .retAddr 0], [.int (nI 35)], toH M) (.inl 0) ([.ref 2000000, .ref 0, .ref 53, .ref 547, .int (nI ix), .retAddr 0, .retAddr 0, .retAddr 0], [], toH K) ∧ R K ∧ Rm M K := by
  obtain ⟨K, g, hK, hm⟩ := lc_35 (ix := ix) hR hx hd hL h4
  exact ⟨K, uo_41 (uo_40 (uo_39 (uo_38 (uo_37 (uo_36 (g)))))), hK, hm⟩
theorem lu_36 {d ix : Nat} {M : MM} (hR : R M) (hx : nx M + 6 < 900000) (hd : 200 ≤ d) (hL : ix + 9 ≤ sL M) (h4 : sL M ≤ 4608) : ∃ K, Ev d t_L_law__b2699 ([.ref 2000000, .ref 0, .ref 53, .ref 547, .int (nI ix), .retAddr 0, .retAddr 0, .retAddr 0], [.int (nI 36)], toH M) (.inl 0) ([.ref 2000000, .ref 0, .ref 53, .ref 547, .int (nI ix), .retAddr 0, .retAddr 0, .retAddr 0], [], toH K) ∧ R K ∧ Rm M K := by
  obtain ⟨K, g, hK, hm⟩ := lc_36 (ix := ix) hR hx hd hL h4
  exact ⟨K, uo_41 (uo_40 (uo_39 (uo_38 (uo_37 (g))))), hK, hm⟩
theorem lu_37 {d ix : Nat} {M : MM} (hR : R M) (hx : nx M + 6 < 900000) (hd : 200 ≤ d) (hL : ix + 9 ≤ sL M) (h4 : sL M ≤ 4608) : ∃ K, Ev d t_L_law__b2699 ([.ref 2000000, .ref 0, .ref 53, .ref 547, .int (nI ix), .retAddr 0, .retAddr 0, .retAddr 0], [.int (nI 37)], toH M) (.inl 0) ([.ref 2000000, .ref 0, .ref 53, .ref 547, .int (nI ix), .retAddr 0, .retAddr 0, .retAddr 0], [], toH K) ∧ R K ∧ Rm M K := by
  obtain ⟨K, g, hK, hm⟩ := lc_37 (ix := ix) hR hx hd hL h4
  exact ⟨K, uo_41 (uo_40 (uo_39 (uo_38 (g)))), hK, hm⟩
theorem lu_38 {d ix : Nat} {M : MM} (hR : R M) (hx : nx M + 6 < 900000) (hd : 200 ≤ d) (hL : ix + 9 ≤ sL M) (h4 : sL M ≤ 4608) : ∃ K, Ev d t_L_law__b2699 ([.ref 2000000, .ref 0, .ref 53, .ref 547, .int (nI ix), .retAddr 0, .retAddr 0, .retAddr 0], [.int (nI 38)], toH M) (.inl 0) ([.ref 2000000, .ref 0, .ref 53, .ref 547, .int (nI ix), .retAddr 0, .retAddr 0, .retAddr 0], [], toH K) ∧ R K ∧ Rm M K := by
  obtain ⟨K, g, hK, hm⟩ := lc_38 (ix := ix) hR hx hd hL h4
  exact ⟨K, uo_41 (uo_40 (uo_39 (g))), hK, hm⟩
theorem lu_39 {d ix : Nat} {M : MM} (hR : R M) (hx : nx M + 6 < 900000) (hd : 200 ≤ d) (hL : ix + 9 ≤ sL M) (h4 : sL M ≤ 4608) : ∃ K, Ev d t_L_law__b2699 ([.ref 2000000, .ref 0, .ref 53, .ref 547, .int (nI ix), .retAddr 0, .retAddr 0, .retAddr 0], [.int (nI 39)], toH M) (.inl 0) ([.ref 2000000, .ref 0, .ref 53, .ref 547, .int (nI ix), .retAddr 0, .retAddr 0, .retAddr 0], [], toH K) ∧ R K ∧ Rm M K := by
  obtain ⟨K, g, hK, hm⟩ := lc_39 (ix := ix) hR hx hd hL h4
  exact ⟨K, uo_41 (uo_40 (g)), hK, hm⟩
theorem lu_40 {d ix : Nat} {M : MM} (hR : R M) (hx : nx M + 6 < 900000) (hd : 200 ≤ d) (hL : ix + 9 ≤ sL M) (h4 : sL M ≤ 4608) : ∃ K, Ev d t_L_law__b2699 ([.ref 2000000, .ref 0, .ref 53, .ref 547, .int (nI ix), .retAddr 0, .retAddr 0, .retAddr 0], [.int (nI 40)], toH M) (.inl 0) ([.ref 2000000, .ref 0, .ref 53, .ref 547, .int (nI ix), .retAddr 0, .retAddr 0, .retAddr 0], [], toH K) ∧ R K ∧ Rm M K := by
  obtain ⟨K, g, hK, hm⟩ := lc_40 (ix := ix) hR hx hd hL h4
  exact ⟨K, uo_41 (g), hK, hm⟩
theorem lu_41 {d ix : Nat} {M : MM} (hR : R M) (hx : nx M + 6 < 900000) (hd : 200 ≤ d) (hL : ix + 9 ≤ sL M) (h4 : sL M ≤ 4608) : ∃ K, Ev d t_L_law__b2699 ([.ref 2000000, .ref 0, .ref 53, .ref 547, .int (nI ix), .retAddr 0, .retAddr 0, .retAddr 0], [.int (nI 41)], toH M) (.inl 0) ([.ref 2000000, .ref 0, .ref 53, .ref 547, .int (nI ix), .retAddr 0, .retAddr 0, .retAddr 0], [], toH K) ∧ R K ∧ Rm M K := by
  obtain ⟨K, g, hK, hm⟩ := lc_41 (ix := ix) hR hx hd hL h4
  exact ⟨K, g, hK, hm⟩
theorem lu_42 {d ix j : Nat} {M : MM} (hR : R M) (hj : 42 ≤ j) (hj2 : j < 64) : ∃ K, Ev d t_L_law__b2699 ([.ref 2000000, .ref 0, .ref 53, .ref 547, .int (nI ix), .retAddr 0, .retAddr 0, .retAddr 0], [.int (nI j)], toH M) (.inl 0) ([.ref 2000000, .ref 0, .ref 53, .ref 547, .int (nI ix), .retAddr 0, .retAddr 0, .retAddr 0], [], toH K) ∧ R K ∧ Rm M K :=
  ⟨M, sk_41 (J := 0) (by rw [swK_j j hj2, if_neg (by omega)]), hR, ⟨by omega, by omega, rfl, rfl⟩⟩
theorem and63 (x : Int32) : ∃ j, j < 64 ∧ x &&& nI 63 = nI j := by
  refine ⟨x.toBitVec.toNat % 64, Nat.mod_lt _ (by decide), ?_⟩
  apply Int32.toBitVec_inj.mp
  apply BitVec.eq_of_toNat_eq
  have h1 : (x &&& nI 63).toBitVec = x.toBitVec &&& (nI 63).toBitVec := rfl
  have h2 : (nI 63).toBitVec.toNat = 63 := by decide
  have h3 : (nI (x.toBitVec.toNat % 64)).toBitVec.toNat = x.toBitVec.toNat % 64 := by
    have hl : x.toBitVec.toNat % 64 < 64 := Nat.mod_lt _ (by decide)
    have key : ∀ j, j < 64 → (nI j).toBitVec.toNat = j := by decide
    exact key _ hl
  rw [h1, BitVec.toNat_and, h2, h3]
  exact Nat.and_two_pow_sub_one_eq_mod x.toBitVec.toNat 6
theorem lp_c {L ix : Nat} (hL : L ≤ 4608) (hi : ix ≤ 4617) : nI L - nI 9 < nI ix ↔ ¬ ix + 9 ≤ L := by
  by_cases h9 : 9 ≤ L
  · have e : nI L - nI 9 = nI (L - 9) := by
      have h : nI (L - 9) + nI 9 = nI L := by rw [nI_add]; congr 1; omega
      rw [← h, Int32.add_sub_cancel]
    rw [e, nI_ltI (by omega) (by omega)]
    omega
  · have key : ∀ L, L < 9 → (nI L - nI 9).toInt < 0 := by decide
    have h := key L (by omega)
    rw [Int32.lt_iff_toInt_lt, nI_toInt (by omega)]
    constructor
    · intro _; omega
    · intro _; omega
theorem lw_step {d ix : Nat} {M : MM} (hR : R M) (hx : nx M + 6 < 900000) (hd : 200 ≤ d) (hL : ix + 9 ≤ sL M) (h4 : sL M ≤ 4608) : ∃ K, Ev d t_L_law__l23b ([.ref 2000000, .ref 0, .ref 53, .ref 547, .int (nI ix), .retAddr 0, .retAddr 0, .retAddr 0], [], toH M) (.inl 1) ([.ref 2000000, .ref 0, .ref 53, .ref 547, .int (nI (ix + 9)), .retAddr 0, .retAddr 0, .retAddr 0], [], toH K) ∧ R K ∧ Rm M K := by
  obtain ⟨j, j64, hj⟩ := and63 (sX M ix)
  have hB : ∃ K, Ev d t_L_law__b2699 ([.ref 2000000, .ref 0, .ref 53, .ref 547, .int (nI ix), .retAddr 0, .retAddr 0, .retAddr 0], [.int (nI j)], toH M) (.inl 0) ([.ref 2000000, .ref 0, .ref 53, .ref 547, .int (nI ix), .retAddr 0, .retAddr 0, .retAddr 0], [], toH K) ∧ R K ∧ Rm M K := by
    by_cases h42 : 42 ≤ j
    · exact lu_42 hR h42 j64
    · match j, h42 with
      | 0, _ => exact lu_0 hR hx hd hL h4
      | 1, _ => exact lu_1 hR hx hd hL h4
      | 2, _ => exact lu_2 hR hx hd hL h4
      | 3, _ => exact lu_3 hR hx hd hL h4
      | 4, _ => exact lu_4 hR hx hd hL h4
      | 5, _ => exact lu_5 hR hx hd hL h4
      | 6, _ => exact lu_6 hR hx hd hL h4
      | 7, _ => exact lu_7 hR hx hd hL h4
      | 8, _ => exact lu_8 hR hx hd hL h4
      | 9, _ => exact lu_9 hR hx hd hL h4
      | 10, _ => exact lu_10 hR hx hd hL h4
      | 11, _ => exact lu_11 hR hx hd hL h4
      | 12, _ => exact lu_12 hR hx hd hL h4
      | 13, _ => exact lu_13 hR hx hd hL h4
      | 14, _ => exact lu_14 hR hx hd hL h4
      | 15, _ => exact lu_15 hR hx hd hL h4
      | 16, _ => exact lu_16 hR hx hd hL h4
      | 17, _ => exact lu_17 hR hx hd hL h4
      | 18, _ => exact lu_18 hR hx hd hL h4
      | 19, _ => exact lu_19 hR hx hd hL h4
      | 20, _ => exact lu_20 hR hx hd hL h4
      | 21, _ => exact lu_21 hR hx hd hL h4
      | 22, _ => exact lu_22 hR hx hd hL h4
      | 23, _ => exact lu_23 hR hx hd hL h4
      | 24, _ => exact lu_24 hR hx hd hL h4
      | 25, _ => exact lu_25 hR hx hd hL h4
      | 26, _ => exact lu_26 hR hx hd hL h4
      | 27, _ => exact lu_27 hR hx hd hL h4
      | 28, _ => exact lu_28 hR hx hd hL h4
      | 29, _ => exact lu_29 hR hx hd hL h4
      | 30, _ => exact lu_30 hR hx hd hL h4
      | 31, _ => exact lu_31 hR hx hd hL h4
      | 32, _ => exact lu_32 hR hx hd hL h4
      | 33, _ => exact lu_33 hR hx hd hL h4
      | 34, _ => exact lu_34 hR hx hd hL h4
      | 35, _ => exact lu_35 hR hx hd hL h4
      | 36, _ => exact lu_36 hR hx hd hL h4
      | 37, _ => exact lu_37 hR hx hd hL h4
      | 38, _ => exact lu_38 hR hx hd hL h4
      | 39, _ => exact lu_39 hR hx hd hL h4
      | 40, _ => exact lu_40 hR hx hd hL h4
      | 41, _ => exact lu_41 hR hx hd hL h4
      | j + 42, h => exact absurd (Nat.le_add_left 42 j) h
  obtain ⟨K, hB, hRK, hm⟩ := hB
  have hk : Ev d t_L_law__k2699 ([.ref 2000000, .ref 0, .ref 53, .ref 547, .int (nI ix), .retAddr 0, .retAddr 0, .retAddr 0], [], toH K) (.inl 1) ([.ref 2000000, .ref 0, .ref 53, .ref 547, .int (nI (ix + 9)), .retAddr 0, .retAddr 0, .retAddr 0], [], toH K) := by
    simp (disch := first | assumption | (simp (disch := first | assumption | omega) only [sh_setI', ln_setI', fr_setI', ai_setI', al_setI', aq_setI', nx_setI', sl_setI', sL_setI', sX_setI', cl_setI', sh_setR', ln_setR', fi_setR', ai_setR', al_setR', aq_setR', nx_setR', sl_setR', sL_setR', sX_setR', cl_setR', sh_setA', ln_setA', fi_setA', fr_setA', al_setA', aq_setA', nx_setA', sl_setA', sL_setA', sX_setA', cl_setA', sh_setL', ln_setL', fi_setL', fr_setL', ai_setL', aq_setL', nx_setL', sl_setL', sL_setL', sX_setL', cl_setL', sh_setQ', ln_setQ', fi_setQ', fr_setQ', ai_setQ', al_setQ', nx_setQ', sl_setQ', sL_setQ', sX_setQ', cl_setQ', ai_eq, ai_ne, al_eq, al_ne, aq_eq, aq_ne, fi_eq, fi_nk, fi_na, fr_eq, fr_nk, fr_na, up_eq, up_ne, SH_setI', SH_setA', SH_setL', List.length_cons, List.length_nil, C_0, C_1, C_2, C_3, C_4, C_5, C_6, C_7, C_8, C_9, C_10, C_11, C_12, C_13, C_14, C_15, C_16, C_17, C_18, C_19, C_20, C_21, C_22, C_23, C_24, C_25, C_26, C_27, C_28, C_29, C_30, C_31, C_32, C_33, C_34, C_35, C_36, C_37, C_38, C_39, C_40, C_41, C_42, C_43, C_44, C_45, C_46, C_47, C_48, C_49, C_50, C_51, C_52, N_2, N_4, N_5, N_6, N_9, N_10, N_11, N_13, N_14, N_15, N_16, N_17, N_19, N_20, N_21, N_22, N_23, N_24, N_25, N_27, N_28, N_29, N_30, N_31, N_32, N_33, N_35, N_36, N_37, N_39, N_40, N_41, N_43, N_44, N_46, N_47, N_49, N_50, N_51, N_52, F_1_0, F_0_0, F_3_0, F_3_1, F_3_2, F_0_1, F_0_2, F_8_0, F_8_1, F_8_2, F_0_3, F_12_0, F_12_1, F_12_2, F_12_3, F_0_4, F_0_5, F_18_0, F_18_1, F_18_2, F_18_3, F_18_4, F_18_5, F_18_6, F_26_0, F_26_1, F_26_2, F_26_3, F_26_4, F_26_5, F_26_6, F_34_0, F_34_1, F_34_2, F_38_0, F_38_1, F_38_2, F_42_0, F_42_1, F_45_0, F_45_1, F_48_0, F_48_1, F_48_2, F_48_3, C_53, C_54, C_55, C_56, C_57, C_58, C_59, C_60, C_77, C_94, C_255, C_416, C_427, C_438, C_439, C_440, C_521, C_522, C_523, C_540, C_544, C_545, C_546, C_547, N_54, N_55, N_56, N_57, N_58, N_59, N_60, N_77, N_94, N_255, N_416, N_427, N_438, N_439, N_440, N_521, N_522, N_523, N_540, N_544, N_545, N_546, N_547, F_53_9, F_53_10, F_53_11, F_53_12, F_53_13, F_53_14, F_53_15, F_53_16, F_53_19, F_53_20, F_53_21, F_53_22, F_53_23, F_53_24, F_53_25, F_53_27, F_53_28, F_53_29, F_53_30, F_53_41, F_53_42, F_53_43, Q_60, QC_60, QN_60, Q_77, QC_77, QN_77, Q_94, QC_94, QN_94, Q_255, QC_255, QN_255, Q_416, QC_416, QN_416, Q_427, QC_427, QN_427, Q_440, QC_440, QN_440, Q_523, QC_523, QN_523, Q_540, QC_540, QN_540] <;> first | omega | assumption) | omega) only [Ev, ev_sqb, t_L_law__k2699, x_iinc4_9, y_iinc4_9, x_goto, y_goto, ev_bk, sq0, sq1, sq2, bk0, bk1, bk2, sq_if, bk_if, rt_if, cr_if, cr0, cr1, crE, rt1, rtE, va_rf_s, va_rf_n, ls_0, ls_1i, ls_1r, ls_1n, ls_1j, ls_1l, ls_2, ls_3, ls_4, ls_5, ls_6, ls_7, ls_8, ls_9, ls_10, ls_11, ls_12, nI_add, nI_ltI, nI_eq, nI_eq0, nI_lt0, nI_0lt, nI_n1, n1_nI, n1_lt, lt_n1, n1_0, n1_n1, n1_l0, if_true, if_false, ite_true, ite_false, bI_0, bI_1, not_true_eq_false, not_false_eq_true, Ew_i, Er_i, Lq_c, Lq_j, Lq_n, Nat.reduceAdd, Nat.zero_add, Nat.add_zero, Nat.lt_irrefl, Bool.false_eq_true, Nat.reduceEqDiff, Nat.reduceLT, Nat.reduceSub, Nat.reduceMul, Nat.one_ne_zero, C_0, C_1, C_2, C_3, C_4, C_5, C_6, C_7, C_8, C_9, C_10, C_11, C_12, C_13, C_14, C_15, C_16, C_17, C_18, C_19, C_20, C_21, C_22, C_23, C_24, C_25, C_26, C_27, C_28, C_29, C_30, C_31, C_32, C_33, C_34, C_35, C_36, C_37, C_38, C_39, C_40, C_41, C_42, C_43, C_44, C_45, C_46, C_47, C_48, C_49, C_50, C_51, C_52, N_2, N_4, N_5, N_6, N_9, N_10, N_11, N_13, N_14, N_15, N_16, N_17, N_19, N_20, N_21, N_22, N_23, N_24, N_25, N_27, N_28, N_29, N_30, N_31, N_32, N_33, N_35, N_36, N_37, N_39, N_40, N_41, N_43, N_44, N_46, N_47, N_49, N_50, N_51, N_52, F_1_0, F_0_0, F_3_0, F_3_1, F_3_2, F_0_1, F_0_2, F_8_0, F_8_1, F_8_2, F_0_3, F_12_0, F_12_1, F_12_2, F_12_3, F_0_4, F_0_5, F_18_0, F_18_1, F_18_2, F_18_3, F_18_4, F_18_5, F_18_6, F_26_0, F_26_1, F_26_2, F_26_3, F_26_4, F_26_5, F_26_6, F_34_0, F_34_1, F_34_2, F_38_0, F_38_1, F_38_2, F_42_0, F_42_1, F_45_0, F_45_1, F_48_0, F_48_1, F_48_2, F_48_3, C_53, C_54, C_55, C_56, C_57, C_58, C_59, C_60, C_77, C_94, C_255, C_416, C_427, C_438, C_439, C_440, C_521, C_522, C_523, C_540, C_544, C_545, C_546, C_547, N_54, N_55, N_56, N_57, N_58, N_59, N_60, N_77, N_94, N_255, N_416, N_427, N_438, N_439, N_440, N_521, N_522, N_523, N_540, N_544, N_545, N_546, N_547, F_53_9, F_53_10, F_53_11, F_53_12, F_53_13, F_53_14, F_53_15, F_53_16, F_53_19, F_53_20, F_53_21, F_53_22, F_53_23, F_53_24, F_53_25, F_53_27, F_53_28, F_53_29, F_53_30, F_53_41, F_53_42, F_53_43, Q_60, QC_60, QN_60, Q_77, QC_77, QN_77, Q_94, QC_94, QN_94, Q_255, QC_255, QN_255, Q_416, QC_416, QN_416, Q_427, QC_427, QN_427, Q_440, QC_440, QN_440, Q_523, QC_523, QN_523, Q_540, QC_540, QN_540, sh_setI', ln_setI', fr_setI', ai_setI', al_setI', aq_setI', nx_setI', sl_setI', sL_setI', sX_setI', cl_setI', sh_setR', ln_setR', fi_setR', ai_setR', al_setR', aq_setR', nx_setR', sl_setR', sL_setR', sX_setR', cl_setR', sh_setA', ln_setA', fi_setA', fr_setA', al_setA', aq_setA', nx_setA', sl_setA', sL_setA', sX_setA', cl_setA', sh_setL', ln_setL', fi_setL', fr_setL', ai_setL', aq_setL', nx_setL', sl_setL', sL_setL', sX_setL', cl_setL', sh_setQ', ln_setQ', fi_setQ', fr_setQ', ai_setQ', al_setQ', nx_setQ', sl_setQ', sL_setQ', sX_setQ', cl_setQ', ai_eq, ai_ne, al_eq, al_ne, aq_eq, aq_ne, fi_eq, fi_nk, fi_na, fr_eq, fr_nk, fr_na, up_eq, up_ne]
  obtain ⟨a, g1, g2⟩ := Ev.seq hB hk
  refine ⟨K, ?_, hRK, hm⟩
  have g1 : ev d (sq t_L_law__b2699 t_L_law__k2699) ([.ref 2000000, .ref 0, .ref 53, .ref 547, .int (nI ix), .retAddr 0, .retAddr 0, .retAddr 0], [.int (nI j)], toH M) = some (.inl 1, a, [], toH K) := g1
  have g2 : Lq [.ref 2000000, .ref 0, .ref 53, .ref 547, .int (nI (ix + 9)), .retAddr 0, .retAddr 0, .retAddr 0] a := g2
  have hi : ix < sL M := by omega
  have hc : ¬ nI (sL M) - nI 9 < nI ix := fun z => (lp_c h4 (by omega)).mp z hL
  simp (disch := first | assumption | (simp (disch := first | assumption | omega) only [sh_setI', ln_setI', fr_setI', ai_setI', al_setI', aq_setI', nx_setI', sl_setI', sL_setI', sX_setI', cl_setI', sh_setR', ln_setR', fi_setR', ai_setR', al_setR', aq_setR', nx_setR', sl_setR', sL_setR', sX_setR', cl_setR', sh_setA', ln_setA', fi_setA', fr_setA', al_setA', aq_setA', nx_setA', sl_setA', sL_setA', sX_setA', cl_setA', sh_setL', ln_setL', fi_setL', fr_setL', ai_setL', aq_setL', nx_setL', sl_setL', sL_setL', sX_setL', cl_setL', sh_setQ', ln_setQ', fi_setQ', fr_setQ', ai_setQ', al_setQ', nx_setQ', sl_setQ', sL_setQ', sX_setQ', cl_setQ', ai_eq, ai_ne, al_eq, al_ne, aq_eq, aq_ne, fi_eq, fi_nk, fi_na, fr_eq, fr_nk, fr_na, up_eq, up_ne, SH_setI', SH_setA', SH_setL', List.length_cons, List.length_nil, C_0, C_1, C_2, C_3, C_4, C_5, C_6, C_7, C_8, C_9, C_10, C_11, C_12, C_13, C_14, C_15, C_16, C_17, C_18, C_19, C_20, C_21, C_22, C_23, C_24, C_25, C_26, C_27, C_28, C_29, C_30, C_31, C_32, C_33, C_34, C_35, C_36, C_37, C_38, C_39, C_40, C_41, C_42, C_43, C_44, C_45, C_46, C_47, C_48, C_49, C_50, C_51, C_52, N_2, N_4, N_5, N_6, N_9, N_10, N_11, N_13, N_14, N_15, N_16, N_17, N_19, N_20, N_21, N_22, N_23, N_24, N_25, N_27, N_28, N_29, N_30, N_31, N_32, N_33, N_35, N_36, N_37, N_39, N_40, N_41, N_43, N_44, N_46, N_47, N_49, N_50, N_51, N_52, F_1_0, F_0_0, F_3_0, F_3_1, F_3_2, F_0_1, F_0_2, F_8_0, F_8_1, F_8_2, F_0_3, F_12_0, F_12_1, F_12_2, F_12_3, F_0_4, F_0_5, F_18_0, F_18_1, F_18_2, F_18_3, F_18_4, F_18_5, F_18_6, F_26_0, F_26_1, F_26_2, F_26_3, F_26_4, F_26_5, F_26_6, F_34_0, F_34_1, F_34_2, F_38_0, F_38_1, F_38_2, F_42_0, F_42_1, F_45_0, F_45_1, F_48_0, F_48_1, F_48_2, F_48_3, C_53, C_54, C_55, C_56, C_57, C_58, C_59, C_60, C_77, C_94, C_255, C_416, C_427, C_438, C_439, C_440, C_521, C_522, C_523, C_540, C_544, C_545, C_546, C_547, N_54, N_55, N_56, N_57, N_58, N_59, N_60, N_77, N_94, N_255, N_416, N_427, N_438, N_439, N_440, N_521, N_522, N_523, N_540, N_544, N_545, N_546, N_547, F_53_9, F_53_10, F_53_11, F_53_12, F_53_13, F_53_14, F_53_15, F_53_16, F_53_19, F_53_20, F_53_21, F_53_22, F_53_23, F_53_24, F_53_25, F_53_27, F_53_28, F_53_29, F_53_30, F_53_41, F_53_42, F_53_43, Q_60, QC_60, QN_60, Q_77, QC_77, QN_77, Q_94, QC_94, QN_94, Q_255, QC_255, QN_255, Q_416, QC_416, QN_416, Q_427, QC_427, QN_427, Q_440, QC_440, QN_440, Q_523, QC_523, QN_523, Q_540, QC_540, QN_540] <;> first | omega | assumption) | omega) only [Ev, ev_sqb, t_L_law__l23b, x_iload4, y_iload4, x_aload_n0, y_aload_n0, x_alen_s, y_alen_s, x_alen_i, y_alen_i, x_alen_b, y_alen_b, x_bipush_9, y_bipush_9, x_isub, y_isub, x_if_icmp_gt, y_if_icmp_gt, x_iaload, y_iaload, x_iaload_s, y_iaload_s, x_bipush_63, y_bipush_63, x_iand, y_iand, ev_bk, sq0, sq1, sq2, bk0, bk1, bk2, sq_if, bk_if, rt_if, cr_if, cr0, cr1, crE, rt1, rtE, va_rf_s, va_rf_n, nI_add, nI_ltI, nI_eq, nI_eq0, nI_lt0, nI_0lt, nI_n1, n1_nI, n1_lt, lt_n1, n1_0, n1_n1, n1_l0, if_true, if_false, ite_true, ite_false, bI_0, bI_1, not_true_eq_false, not_false_eq_true, Ew_i, Er_i, Lq_c, Lq_j, Lq_n, Nat.reduceAdd, Nat.zero_add, Nat.add_zero, Nat.lt_irrefl, Bool.false_eq_true, Nat.reduceEqDiff, Nat.reduceLT, Nat.reduceSub, Nat.reduceMul, Nat.one_ne_zero, C_0, C_1, C_2, C_3, C_4, C_5, C_6, C_7, C_8, C_9, C_10, C_11, C_12, C_13, C_14, C_15, C_16, C_17, C_18, C_19, C_20, C_21, C_22, C_23, C_24, C_25, C_26, C_27, C_28, C_29, C_30, C_31, C_32, C_33, C_34, C_35, C_36, C_37, C_38, C_39, C_40, C_41, C_42, C_43, C_44, C_45, C_46, C_47, C_48, C_49, C_50, C_51, C_52, N_2, N_4, N_5, N_6, N_9, N_10, N_11, N_13, N_14, N_15, N_16, N_17, N_19, N_20, N_21, N_22, N_23, N_24, N_25, N_27, N_28, N_29, N_30, N_31, N_32, N_33, N_35, N_36, N_37, N_39, N_40, N_41, N_43, N_44, N_46, N_47, N_49, N_50, N_51, N_52, F_1_0, F_0_0, F_3_0, F_3_1, F_3_2, F_0_1, F_0_2, F_8_0, F_8_1, F_8_2, F_0_3, F_12_0, F_12_1, F_12_2, F_12_3, F_0_4, F_0_5, F_18_0, F_18_1, F_18_2, F_18_3, F_18_4, F_18_5, F_18_6, F_26_0, F_26_1, F_26_2, F_26_3, F_26_4, F_26_5, F_26_6, F_34_0, F_34_1, F_34_2, F_38_0, F_38_1, F_38_2, F_42_0, F_42_1, F_45_0, F_45_1, F_48_0, F_48_1, F_48_2, F_48_3, C_53, C_54, C_55, C_56, C_57, C_58, C_59, C_60, C_77, C_94, C_255, C_416, C_427, C_438, C_439, C_440, C_521, C_522, C_523, C_540, C_544, C_545, C_546, C_547, N_54, N_55, N_56, N_57, N_58, N_59, N_60, N_77, N_94, N_255, N_416, N_427, N_438, N_439, N_440, N_521, N_522, N_523, N_540, N_544, N_545, N_546, N_547, F_53_9, F_53_10, F_53_11, F_53_12, F_53_13, F_53_14, F_53_15, F_53_16, F_53_19, F_53_20, F_53_21, F_53_22, F_53_23, F_53_24, F_53_25, F_53_27, F_53_28, F_53_29, F_53_30, F_53_41, F_53_42, F_53_43, Q_60, QC_60, QN_60, Q_77, QC_77, QN_77, Q_94, QC_94, QN_94, Q_255, QC_255, QN_255, Q_416, QC_416, QN_416, Q_427, QC_427, QN_427, Q_440, QC_440, QN_440, Q_523, QC_523, QN_523, Q_540, QC_540, QN_540, sh_setI', ln_setI', fr_setI', ai_setI', al_setI', aq_setI', nx_setI', sl_setI', sL_setI', sX_setI', cl_setI', sh_setR', ln_setR', fi_setR', ai_setR', al_setR', aq_setR', nx_setR', sl_setR', sL_setR', sX_setR', cl_setR', sh_setA', ln_setA', fi_setA', fr_setA', al_setA', aq_setA', nx_setA', sl_setA', sL_setA', sX_setA', cl_setA', sh_setL', ln_setL', fi_setL', fr_setL', ai_setL', aq_setL', nx_setL', sl_setL', sL_setL', sX_setL', cl_setL', sh_setQ', ln_setQ', fi_setQ', fr_setQ', ai_setQ', al_setQ', nx_setQ', sl_setQ', sL_setQ', sX_setQ', cl_setQ', ai_eq, ai_ne, al_eq, al_ne, aq_eq, aq_ne, fi_eq, fi_nk, fi_na, fr_eq, fr_nk, fr_na, up_eq, up_ne, hc, hj, g1]
  exact g2
theorem lw_end {d ix : Nat} {M : MM} (hi : ix ≤ 4617) (hL : ¬ ix + 9 ≤ sL M) (h4 : sL M ≤ 4608) : Ev d t_L_law__l23b ([.ref 2000000, .ref 0, .ref 53, .ref 547, .int (nI ix), .retAddr 0, .retAddr 0, .retAddr 0], [], toH M) (.inl 2) ([.ref 2000000, .ref 0, .ref 53, .ref 547, .int (nI ix), .retAddr 0, .retAddr 0, .retAddr 0], [], toH M) := by
  have hc : nI (sL M) - nI 9 < nI ix := (lp_c h4 hi).mpr hL
  simp (disch := first | assumption | (simp (disch := first | assumption | omega) only [sh_setI', ln_setI', fr_setI', ai_setI', al_setI', aq_setI', nx_setI', sl_setI', sL_setI', sX_setI', cl_setI', sh_setR', ln_setR', fi_setR', ai_setR', al_setR', aq_setR', nx_setR', sl_setR', sL_setR', sX_setR', cl_setR', sh_setA', ln_setA', fi_setA', fr_setA', al_setA', aq_setA', nx_setA', sl_setA', sL_setA', sX_setA', cl_setA', sh_setL', ln_setL', fi_setL', fr_setL', ai_setL', aq_setL', nx_setL', sl_setL', sL_setL', sX_setL', cl_setL', sh_setQ', ln_setQ', fi_setQ', fr_setQ', ai_setQ', al_setQ', nx_setQ', sl_setQ', sL_setQ', sX_setQ', cl_setQ', ai_eq, ai_ne, al_eq, al_ne, aq_eq, aq_ne, fi_eq, fi_nk, fi_na, fr_eq, fr_nk, fr_na, up_eq, up_ne, SH_setI', SH_setA', SH_setL', List.length_cons, List.length_nil, C_0, C_1, C_2, C_3, C_4, C_5, C_6, C_7, C_8, C_9, C_10, C_11, C_12, C_13, C_14, C_15, C_16, C_17, C_18, C_19, C_20, C_21, C_22, C_23, C_24, C_25, C_26, C_27, C_28, C_29, C_30, C_31, C_32, C_33, C_34, C_35, C_36, C_37, C_38, C_39, C_40, C_41, C_42, C_43, C_44, C_45, C_46, C_47, C_48, C_49, C_50, C_51, C_52, N_2, N_4, N_5, N_6, N_9, N_10, N_11, N_13, N_14, N_15, N_16, N_17, N_19, N_20, N_21, N_22, N_23, N_24, N_25, N_27, N_28, N_29, N_30, N_31, N_32, N_33, N_35, N_36, N_37, N_39, N_40, N_41, N_43, N_44, N_46, N_47, N_49, N_50, N_51, N_52, F_1_0, F_0_0, F_3_0, F_3_1, F_3_2, F_0_1, F_0_2, F_8_0, F_8_1, F_8_2, F_0_3, F_12_0, F_12_1, F_12_2, F_12_3, F_0_4, F_0_5, F_18_0, F_18_1, F_18_2, F_18_3, F_18_4, F_18_5, F_18_6, F_26_0, F_26_1, F_26_2, F_26_3, F_26_4, F_26_5, F_26_6, F_34_0, F_34_1, F_34_2, F_38_0, F_38_1, F_38_2, F_42_0, F_42_1, F_45_0, F_45_1, F_48_0, F_48_1, F_48_2, F_48_3, C_53, C_54, C_55, C_56, C_57, C_58, C_59, C_60, C_77, C_94, C_255, C_416, C_427, C_438, C_439, C_440, C_521, C_522, C_523, C_540, C_544, C_545, C_546, C_547, N_54, N_55, N_56, N_57, N_58, N_59, N_60, N_77, N_94, N_255, N_416, N_427, N_438, N_439, N_440, N_521, N_522, N_523, N_540, N_544, N_545, N_546, N_547, F_53_9, F_53_10, F_53_11, F_53_12, F_53_13, F_53_14, F_53_15, F_53_16, F_53_19, F_53_20, F_53_21, F_53_22, F_53_23, F_53_24, F_53_25, F_53_27, F_53_28, F_53_29, F_53_30, F_53_41, F_53_42, F_53_43, Q_60, QC_60, QN_60, Q_77, QC_77, QN_77, Q_94, QC_94, QN_94, Q_255, QC_255, QN_255, Q_416, QC_416, QN_416, Q_427, QC_427, QN_427, Q_440, QC_440, QN_440, Q_523, QC_523, QN_523, Q_540, QC_540, QN_540] <;> first | omega | assumption) | omega) only [Ev, ev_sqb, t_L_law__l23b, x_iload4, y_iload4, x_aload_n0, y_aload_n0, x_alen_s, y_alen_s, x_alen_i, y_alen_i, x_alen_b, y_alen_b, x_bipush_9, y_bipush_9, x_isub, y_isub, x_if_icmp_gt, y_if_icmp_gt, x_iaload, y_iaload, x_iaload_s, y_iaload_s, x_bipush_63, y_bipush_63, x_iand, y_iand, ev_bk, sq0, sq1, sq2, bk0, bk1, bk2, sq_if, bk_if, rt_if, cr_if, cr0, cr1, crE, rt1, rtE, va_rf_s, va_rf_n, nI_add, nI_ltI, nI_eq, nI_eq0, nI_lt0, nI_0lt, nI_n1, n1_nI, n1_lt, lt_n1, n1_0, n1_n1, n1_l0, if_true, if_false, ite_true, ite_false, bI_0, bI_1, not_true_eq_false, not_false_eq_true, Ew_i, Er_i, Lq_c, Lq_j, Lq_n, Nat.reduceAdd, Nat.zero_add, Nat.add_zero, Nat.lt_irrefl, Bool.false_eq_true, Nat.reduceEqDiff, Nat.reduceLT, Nat.reduceSub, Nat.reduceMul, Nat.one_ne_zero, C_0, C_1, C_2, C_3, C_4, C_5, C_6, C_7, C_8, C_9, C_10, C_11, C_12, C_13, C_14, C_15, C_16, C_17, C_18, C_19, C_20, C_21, C_22, C_23, C_24, C_25, C_26, C_27, C_28, C_29, C_30, C_31, C_32, C_33, C_34, C_35, C_36, C_37, C_38, C_39, C_40, C_41, C_42, C_43, C_44, C_45, C_46, C_47, C_48, C_49, C_50, C_51, C_52, N_2, N_4, N_5, N_6, N_9, N_10, N_11, N_13, N_14, N_15, N_16, N_17, N_19, N_20, N_21, N_22, N_23, N_24, N_25, N_27, N_28, N_29, N_30, N_31, N_32, N_33, N_35, N_36, N_37, N_39, N_40, N_41, N_43, N_44, N_46, N_47, N_49, N_50, N_51, N_52, F_1_0, F_0_0, F_3_0, F_3_1, F_3_2, F_0_1, F_0_2, F_8_0, F_8_1, F_8_2, F_0_3, F_12_0, F_12_1, F_12_2, F_12_3, F_0_4, F_0_5, F_18_0, F_18_1, F_18_2, F_18_3, F_18_4, F_18_5, F_18_6, F_26_0, F_26_1, F_26_2, F_26_3, F_26_4, F_26_5, F_26_6, F_34_0, F_34_1, F_34_2, F_38_0, F_38_1, F_38_2, F_42_0, F_42_1, F_45_0, F_45_1, F_48_0, F_48_1, F_48_2, F_48_3, C_53, C_54, C_55, C_56, C_57, C_58, C_59, C_60, C_77, C_94, C_255, C_416, C_427, C_438, C_439, C_440, C_521, C_522, C_523, C_540, C_544, C_545, C_546, C_547, N_54, N_55, N_56, N_57, N_58, N_59, N_60, N_77, N_94, N_255, N_416, N_427, N_438, N_439, N_440, N_521, N_522, N_523, N_540, N_544, N_545, N_546, N_547, F_53_9, F_53_10, F_53_11, F_53_12, F_53_13, F_53_14, F_53_15, F_53_16, F_53_19, F_53_20, F_53_21, F_53_22, F_53_23, F_53_24, F_53_25, F_53_27, F_53_28, F_53_29, F_53_30, F_53_41, F_53_42, F_53_43, Q_60, QC_60, QN_60, Q_77, QC_77, QN_77, Q_94, QC_94, QN_94, Q_255, QC_255, QN_255, Q_416, QC_416, QN_416, Q_427, QC_427, QN_427, Q_440, QC_440, QN_440, Q_523, QC_523, QN_523, Q_540, QC_540, QN_540, sh_setI', ln_setI', fr_setI', ai_setI', al_setI', aq_setI', nx_setI', sl_setI', sL_setI', sX_setI', cl_setI', sh_setR', ln_setR', fi_setR', ai_setR', al_setR', aq_setR', nx_setR', sl_setR', sL_setR', sX_setR', cl_setR', sh_setA', ln_setA', fi_setA', fr_setA', al_setA', aq_setA', nx_setA', sl_setA', sL_setA', sX_setA', cl_setA', sh_setL', ln_setL', fi_setL', fr_setL', ai_setL', aq_setL', nx_setL', sl_setL', sL_setL', sX_setL', cl_setL', sh_setQ', ln_setQ', fi_setQ', fr_setQ', ai_setQ', al_setQ', nx_setQ', sl_setQ', sL_setQ', sX_setQ', cl_setQ', ai_eq, ai_ne, al_eq, al_ne, aq_eq, aq_ne, fi_eq, fi_nk, fi_na, fr_eq, fr_nk, fr_na, up_eq, up_ne, hc]
theorem lw_loop {d : Nat} (hd : 200 ≤ d) : ∀ (n ix : Nat) (M : MM), R M → sL M ≤ 4608 → ix ≤ sL M → sL M < ix + 9 * n + 9 → nx M + 6 * n + 6 < 900000 → ∃ K ix', Ev d t_L_law__l23 ([.ref 2000000, .ref 0, .ref 53, .ref 547, .int (nI ix), .retAddr 0, .retAddr 0, .retAddr 0], [], toH M) (.inl 1) ([.ref 2000000, .ref 0, .ref 53, .ref 547, .int (nI (ix')), .retAddr 0, .retAddr 0, .retAddr 0], [], toH K) ∧ nx K ≤ nx M + 6 * n ∧ sl K ≤ sl M + 90 * n := by
  intro n
  induction n with
  | zero =>
    intro ix M hR h4 hi hn hx
    exact ⟨M, ix, Ev_exit (k := 0) (lw_end (by omega) (by omega) h4), by omega, by omega⟩
  | succ n ih =>
    intro ix M hR h4 hi hn hx
    by_cases hL : ix + 9 ≤ sL M
    · obtain ⟨K, hs, hK, m1, m2, m3, m4⟩ := lw_step (d := d) (ix := ix) hR (by omega) hd hL h4
      obtain ⟨K2, ix2, he, b1, b2⟩ := ih (ix + 9) K hK (by omega) (by omega) (by omega) (by omega)
      exact ⟨K2, ix2, Ev_step hs he, by omega, by omega⟩
    · exact ⟨M, ix, Ev_exit (k := 0) (lw_end (by omega) hL h4), by omega, by omega⟩
