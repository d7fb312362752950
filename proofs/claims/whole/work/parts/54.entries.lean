/-! ===== how a call begins (written by wip/px.py) ===== -/
def pR_12 : List (Nat × AT × List (Nat × Nat) × Bool) := pL_12
def pR_11 : List (Nat × AT × List (Nat × Nat) × Bool) := pL_11 ++ pR_12
def pR_10 : List (Nat × AT × List (Nat × Nat) × Bool) := pL_10 ++ pR_11
def pR_9 : List (Nat × AT × List (Nat × Nat) × Bool) := pL_9 ++ pR_10
def pR_8 : List (Nat × AT × List (Nat × Nat) × Bool) := pL_8 ++ pR_9
def pR_7 : List (Nat × AT × List (Nat × Nat) × Bool) := pL_7 ++ pR_8
def pR_6 : List (Nat × AT × List (Nat × Nat) × Bool) := pL_6 ++ pR_7
def pR_5 : List (Nat × AT × List (Nat × Nat) × Bool) := pL_5 ++ pR_6
def pR_4 : List (Nat × AT × List (Nat × Nat) × Bool) := pL_4 ++ pR_5
def pR_3 : List (Nat × AT × List (Nat × Nat) × Bool) := pL_3 ++ pR_4
def pR_2 : List (Nat × AT × List (Nat × Nat) × Bool) := pL_2 ++ pR_3
def pR_1 : List (Nat × AT × List (Nat × Nat) × Bool) := pL_1 ++ pR_2
def pR_0 : List (Nat × AT × List (Nat × Nat) × Bool) := pL_0 ++ pR_1
theorem pQ : pL = pR_0 := by simp only [pL, pR_0, pR_1, pR_2, pR_3, pR_4, pR_5, pR_6, pR_7, pR_8, pR_9, pR_10, pR_11, pR_12, List.append_assoc]
theorem pD_0 (i : Nat) : PP (0 + i) = pR_0[i]? := by rw [Nat.zero_add]; unfold PP; rw [pQ]
theorem pD_1 (i : Nat) : PP (25 + i) = pR_1[i]? := by
  have h := pD_0 (25 + i)
  rw [show 0 + (25 + i) = 25 + i by omega] at h
  rw [h]
  unfold pR_0
  rw [List.getElem?_append_right (by show 25 ≤ 25 + i; omega), show 25 + i - pL_0.length = i by show 25 + i - 25 = i; omega]
theorem pD_2 (i : Nat) : PP (50 + i) = pR_2[i]? := by
  have h := pD_1 (25 + i)
  rw [show 25 + (25 + i) = 50 + i by omega] at h
  rw [h]
  unfold pR_1
  rw [List.getElem?_append_right (by show 25 ≤ 25 + i; omega), show 25 + i - pL_1.length = i by show 25 + i - 25 = i; omega]
theorem pD_3 (i : Nat) : PP (75 + i) = pR_3[i]? := by
  have h := pD_2 (25 + i)
  rw [show 50 + (25 + i) = 75 + i by omega] at h
  rw [h]
  unfold pR_2
  rw [List.getElem?_append_right (by show 25 ≤ 25 + i; omega), show 25 + i - pL_2.length = i by show 25 + i - 25 = i; omega]
theorem pD_4 (i : Nat) : PP (100 + i) = pR_4[i]? := by
  have h := pD_3 (25 + i)
  rw [show 75 + (25 + i) = 100 + i by omega] at h
  rw [h]
  unfold pR_3
  rw [List.getElem?_append_right (by show 25 ≤ 25 + i; omega), show 25 + i - pL_3.length = i by show 25 + i - 25 = i; omega]
theorem pD_5 (i : Nat) : PP (125 + i) = pR_5[i]? := by
  have h := pD_4 (25 + i)
  rw [show 100 + (25 + i) = 125 + i by omega] at h
  rw [h]
  unfold pR_4
  rw [List.getElem?_append_right (by show 25 ≤ 25 + i; omega), show 25 + i - pL_4.length = i by show 25 + i - 25 = i; omega]
theorem pD_6 (i : Nat) : PP (150 + i) = pR_6[i]? := by
  have h := pD_5 (25 + i)
  rw [show 125 + (25 + i) = 150 + i by omega] at h
  rw [h]
  unfold pR_5
  rw [List.getElem?_append_right (by show 25 ≤ 25 + i; omega), show 25 + i - pL_5.length = i by show 25 + i - 25 = i; omega]
theorem pD_7 (i : Nat) : PP (175 + i) = pR_7[i]? := by
  have h := pD_6 (25 + i)
  rw [show 150 + (25 + i) = 175 + i by omega] at h
  rw [h]
  unfold pR_6
  rw [List.getElem?_append_right (by show 25 ≤ 25 + i; omega), show 25 + i - pL_6.length = i by show 25 + i - 25 = i; omega]
theorem pD_8 (i : Nat) : PP (200 + i) = pR_8[i]? := by
  have h := pD_7 (25 + i)
  rw [show 175 + (25 + i) = 200 + i by omega] at h
  rw [h]
  unfold pR_7
  rw [List.getElem?_append_right (by show 25 ≤ 25 + i; omega), show 25 + i - pL_7.length = i by show 25 + i - 25 = i; omega]
theorem pD_9 (i : Nat) : PP (225 + i) = pR_9[i]? := by
  have h := pD_8 (25 + i)
  rw [show 200 + (25 + i) = 225 + i by omega] at h
  rw [h]
  unfold pR_8
  rw [List.getElem?_append_right (by show 25 ≤ 25 + i; omega), show 25 + i - pL_8.length = i by show 25 + i - 25 = i; omega]
theorem pD_10 (i : Nat) : PP (250 + i) = pR_10[i]? := by
  have h := pD_9 (25 + i)
  rw [show 225 + (25 + i) = 250 + i by omega] at h
  rw [h]
  unfold pR_9
  rw [List.getElem?_append_right (by show 25 ≤ 25 + i; omega), show 25 + i - pL_9.length = i by show 25 + i - 25 = i; omega]
theorem pD_11 (i : Nat) : PP (275 + i) = pR_11[i]? := by
  have h := pD_10 (25 + i)
  rw [show 250 + (25 + i) = 275 + i by omega] at h
  rw [h]
  unfold pR_10
  rw [List.getElem?_append_right (by show 25 ≤ 25 + i; omega), show 25 + i - pL_10.length = i by show 25 + i - 25 = i; omega]
theorem pD_12 (i : Nat) : PP (300 + i) = pR_12[i]? := by
  have h := pD_11 (25 + i)
  rw [show 275 + (25 + i) = 300 + i by omega] at h
  rw [h]
  unfold pR_11
  rw [List.getElem?_append_right (by show 25 ≤ 25 + i; omega), show 25 + i - pL_11.length = i by show 25 + i - 25 = i; omega]
theorem P_X0_init : PP 0 = some (1, t_X0_init, [], false) := pD_0 0
theorem E_X0_init {d : Nat} {x0 : Nat} {h : AH} (hd : 9 ≤ d) : evC d 0 [.ref x0] h = retR [] false (ev (d - 1) t_X0_init ([.ref x0], [], h)) := evC_eq hd P_X0_init (Nat.le_of_ble_eq_true rfl)
theorem P_X0_read : PP 1 = some (3, t_X0_read, [], false) := pD_0 1
theorem E_X0_read {d : Nat} {x0 : Nat} {x1 : Nat} {h : AH} (hd : 9 ≤ d) : evC d 1 [.ref x0, .ref x1] h = retR [] false (ev (d - 1) t_X0_read ([.ref x0, .ref x1, .retAddr 0], [], h)) := evC_eq hd P_X0_read (Nat.le_of_ble_eq_true rfl)
theorem P_X0_clear : PP 2 = some (2, t_X0_clear, [], false) := pD_0 2
theorem E_X0_clear {d : Nat} {x0 : Nat} {h : AH} (hd : 9 ≤ d) : evC d 2 [.ref x0] h = retR [] false (ev (d - 1) t_X0_clear ([.ref x0, .retAddr 0], [], h)) := evC_eq hd P_X0_clear (Nat.le_of_ble_eq_true rfl)
theorem P_X0_readClause : PP 3 = some (4, t_X0_readClause, [], false) := pD_0 3
theorem E_X0_readClause {d : Nat} {x0 : Nat} {x1 : Nat} {x2 : Int32} {h : AH} (hd : 9 ≤ d) : evC d 3 [.ref x0, .ref x1, .int x2] h = retR [] false (ev (d - 1) t_X0_readClause ([.ref x0, .ref x1, .int x2, .retAddr 0], [], h)) := evC_eq hd P_X0_readClause (Nat.le_of_ble_eq_true rfl)
theorem P_X0_clauseKind : PP 4 = some (1, t_X0_clauseKind, [], false) := pD_0 4
theorem E_X0_clauseKind {d : Nat} {x0 : Nat} {h : AH} (hd : 9 ≤ d) : evC d 4 [.ref x0] h = retR [] false (ev (d - 1) t_X0_clauseKind ([.ref x0], [], h)) := evC_eq hd P_X0_clauseKind (Nat.le_of_ble_eq_true rfl)
theorem P_X0_readParts : PP 5 = some (3, t_X0_readParts, [], false) := pD_0 5
theorem E_X0_readParts {d : Nat} {x0 : Nat} {x1 : Nat} {x2 : Int32} {h : AH} (hd : 9 ≤ d) : evC d 5 [.ref x0, .ref x1, .int x2] h = retR [] false (ev (d - 1) t_X0_readParts ([.ref x0, .ref x1, .int x2], [], h)) := evC_eq hd P_X0_readParts (Nat.le_of_ble_eq_true rfl)
theorem P_X0_readPicture : PP 6 = some (3, t_X0_readPicture, [], false) := pD_0 6
theorem E_X0_readPicture {d : Nat} {x0 : Nat} {x1 : Nat} {h : AH} (hd : 9 ≤ d) : evC d 6 [.ref x0, .ref x1] h = retR [] false (ev (d - 1) t_X0_readPicture ([.ref x0, .ref x1, .retAddr 0], [], h)) := evC_eq hd P_X0_readPicture (Nat.le_of_ble_eq_true rfl)
theorem P_X0_readWish : PP 7 = some (4, t_X0_readWish, [], false) := pD_0 7
theorem E_X0_readWish {d : Nat} {x0 : Nat} {x1 : Nat} {h : AH} (hd : 9 ≤ d) : evC d 7 [.ref x0, .ref x1] h = retR [] false (ev (d - 1) t_X0_readWish ([.ref x0, .ref x1, .retAddr 0, .retAddr 0], [], h)) := evC_eq hd P_X0_readWish (Nat.le_of_ble_eq_true rfl)
theorem P_X0_allBits : PP 8 = some (1, t_X0_allBits, [], false) := pD_0 8
theorem E_X0_allBits {d : Nat} {x0 : Nat} {h : AH} (hd : 9 ≤ d) : evC d 8 [.ref x0] h = retR [] false (ev (d - 1) t_X0_allBits ([.ref x0], [], h)) := evC_eq hd P_X0_allBits (Nat.le_of_ble_eq_true rfl)
theorem P_X0_those : PP 9 = some (5, t_X0_those, [], false) := pD_0 9
theorem E_X0_those {d : Nat} {x0 : Nat} {x1 : Nat} {x2 : Int32} {h : AH} (hd : 9 ≤ d) : evC d 9 [.ref x0, .ref x1, .int x2] h = retR [] false (ev (d - 1) t_X0_those ([.ref x0, .ref x1, .int x2, .retAddr 0, .retAddr 0], [], h)) := evC_eq hd P_X0_those (Nat.le_of_ble_eq_true rfl)
theorem P_X0_alike : PP 10 = some (2, t_X0_alike, [], false) := pD_0 10
theorem E_X0_alike {d : Nat} {x0 : Nat} {x1 : Int32} {h : AH} (hd : 9 ≤ d) : evC d 10 [.ref x0, .int x1] h = retR [] false (ev (d - 1) t_X0_alike ([.ref x0, .int x1], [], h)) := evC_eq hd P_X0_alike (Nat.le_of_ble_eq_true rfl)
theorem P_X0_sumOf : PP 11 = some (5, t_X0_sumOf, [], false) := pD_0 11
theorem E_X0_sumOf {d : Nat} {x0 : Nat} {x1 : Int32} {x2 : Nat} {h : AH} (hd : 9 ≤ d) : evC d 11 [.ref x0, .int x1, .ref x2] h = retR [] false (ev (d - 1) t_X0_sumOf ([.ref x0, .int x1, .ref x2, .retAddr 0, .retAddr 0], [], h)) := evC_eq hd P_X0_sumOf (Nat.le_of_ble_eq_true rfl)
theorem P_X0_firstGreatest : PP 12 = some (5, t_X0_firstGreatest, [], false) := pD_0 12
theorem E_X0_firstGreatest {d : Nat} {x0 : Nat} {x1 : Int32} {x2 : Nat} {h : AH} (hd : 9 ≤ d) : evC d 12 [.ref x0, .int x1, .ref x2] h = retR [] false (ev (d - 1) t_X0_firstGreatest ([.ref x0, .int x1, .ref x2, .retAddr 0, .retAddr 0], [], h)) := evC_eq hd P_X0_firstGreatest (Nat.le_of_ble_eq_true rfl)
theorem P_X0_areScenesApart : PP 13 = some (4, t_X0_areScenesApart, [], false) := pD_0 13
theorem E_X0_areScenesApart {d : Nat} {x0 : Nat} {x1 : Int32} {h : AH} (hd : 9 ≤ d) : evC d 13 [.ref x0, .int x1] h = retR [] false (ev (d - 1) t_X0_areScenesApart ([.ref x0, .int x1, .retAddr 0, .retAddr 0], [], h)) := evC_eq hd P_X0_areScenesApart (Nat.le_of_ble_eq_true rfl)
theorem P_X0_areWishesMet : PP 14 = some (4, t_X0_areWishesMet, [], false) := pD_0 14
theorem E_X0_areWishesMet {d : Nat} {x0 : Nat} {x1 : Int32} {x2 : Int32} {h : AH} (hd : 9 ≤ d) : evC d 14 [.ref x0, .int x1, .int x2] h = retR [] false (ev (d - 1) t_X0_areWishesMet ([.ref x0, .int x1, .int x2, .retAddr 0], [], h)) := evC_eq hd P_X0_areWishesMet (Nat.le_of_ble_eq_true rfl)
theorem P_X1_init : PP 15 = some (1, t_X1_init, [], false) := pD_0 15
theorem E_X1_init {d : Nat} {x0 : Nat} {h : AH} (hd : 9 ≤ d) : evC d 15 [.ref x0] h = retR [] false (ev (d - 1) t_X1_init ([.ref x0], [], h)) := evC_eq hd P_X1_init (Nat.le_of_ble_eq_true rfl)
theorem P_X1_searchAll : PP 16 = some (4, t_X1_searchAll, [], false) := pD_0 16
theorem E_X1_searchAll {d : Nat} {x0 : Nat} {x1 : Nat} {x2 : Int32} {x3 : Int32} {h : AH} (hd : 9 ≤ d) : evC d 16 [.ref x0, .ref x1, .int x2, .int x3] h = retR [] false (ev (d - 1) t_X1_searchAll ([.ref x0, .ref x1, .int x2, .int x3], [], h)) := evC_eq hd P_X1_searchAll (Nat.le_of_ble_eq_true rfl)
theorem P_X1_choose : PP 17 = some (8, t_X1_choose, [], false) := pD_0 17
theorem E_X1_choose {d : Nat} {x0 : Nat} {x1 : Nat} {x2 : Int32} {x3 : Int32} {x4 : Int32} {x5 : Int32} {h : AH} (hd : 9 ≤ d) : evC d 17 [.ref x0, .ref x1, .int x2, .int x3, .int x4, .int x5] h = retR [] false (ev (d - 1) t_X1_choose ([.ref x0, .ref x1, .int x2, .int x3, .int x4, .int x5, .retAddr 0, .retAddr 0], [], h)) := evC_eq hd P_X1_choose (Nat.le_of_ble_eq_true rfl)
theorem P_X1_weigh : PP 18 = some (4, t_X1_weigh, [], false) := pD_0 18
theorem E_X1_weigh {d : Nat} {x0 : Nat} {x1 : Nat} {x2 : Int32} {x3 : Int32} {h : AH} (hd : 9 ≤ d) : evC d 18 [.ref x0, .ref x1, .int x2, .int x3] h = retR [] false (ev (d - 1) t_X1_weigh ([.ref x0, .ref x1, .int x2, .int x3], [], h)) := evC_eq hd P_X1_weigh (Nat.le_of_ble_eq_true rfl)
theorem P_X2_init : PP 19 = some (1, t_X2_init, [], false) := pD_0 19
theorem E_X2_init {d : Nat} {x0 : Nat} {h : AH} (hd : 9 ≤ d) : evC d 19 [.ref x0] h = retR [] false (ev (d - 1) t_X2_init ([.ref x0], [], h)) := evC_eq hd P_X2_init (Nat.le_of_ble_eq_true rfl)
theorem P_X2_clear : PP 20 = some (1, t_X2_clear, [], false) := pD_0 20
theorem E_X2_clear {d : Nat} {x0 : Nat} {h : AH} (hd : 9 ≤ d) : evC d 20 [.ref x0] h = retR [] false (ev (d - 1) t_X2_clear ([.ref x0], [], h)) := evC_eq hd P_X2_clear (Nat.le_of_ble_eq_true rfl)
theorem P_X2_read : PP 21 = some (3, t_X2_read, [], false) := pD_0 21
theorem E_X2_read {d : Nat} {x0 : Nat} {x1 : Nat} {h : AH} (hd : 9 ≤ d) : evC d 21 [.ref x0, .ref x1] h = retR [] false (ev (d - 1) t_X2_read ([.ref x0, .ref x1, .retAddr 0], [], h)) := evC_eq hd P_X2_read (Nat.le_of_ble_eq_true rfl)
theorem P_X2_readLine : PP 22 = some (3, t_X2_readLine, [], false) := pD_0 22
theorem E_X2_readLine {d : Nat} {x0 : Nat} {x1 : Nat} {h : AH} (hd : 9 ≤ d) : evC d 22 [.ref x0, .ref x1] h = retR [] false (ev (d - 1) t_X2_readLine ([.ref x0, .ref x1, .retAddr 0], [], h)) := evC_eq hd P_X2_readLine (Nat.le_of_ble_eq_true rfl)
theorem P_X2_countRight : PP 23 = some (5, t_X2_countRight, [], false) := pD_0 23
theorem E_X2_countRight {d : Nat} {x0 : Nat} {x1 : Int32} {h : AH} (hd : 9 ≤ d) : evC d 23 [.ref x0, .int x1] h = retR [] false (ev (d - 1) t_X2_countRight ([.ref x0, .int x1, .retAddr 0, .retAddr 0, .retAddr 0], [], h)) := evC_eq hd P_X2_countRight (Nat.le_of_ble_eq_true rfl)
theorem P_X2_countFits : PP 24 = some (4, t_X2_countFits, [], false) := pD_0 24
theorem E_X2_countFits {d : Nat} {x0 : Nat} {x1 : Int32} {h : AH} (hd : 9 ≤ d) : evC d 24 [.ref x0, .int x1] h = retR [] false (ev (d - 1) t_X2_countFits ([.ref x0, .int x1, .retAddr 0, .retAddr 0], [], h)) := evC_eq hd P_X2_countFits (Nat.le_of_ble_eq_true rfl)
theorem P_X2_fitAt : PP 25 = some (5, t_X2_fitAt, [], false) := pD_1 0
theorem E_X2_fitAt {d : Nat} {x0 : Nat} {x1 : Int32} {x2 : Int32} {h : AH} (hd : 9 ≤ d) : evC d 25 [.ref x0, .int x1, .int x2] h = retR [] false (ev (d - 1) t_X2_fitAt ([.ref x0, .int x1, .int x2, .retAddr 0, .retAddr 0], [], h)) := evC_eq hd P_X2_fitAt (Nat.le_of_ble_eq_true rfl)
theorem P_X2_bestFit : PP 26 = some (6, t_X2_bestFit, [], false) := pD_1 1
theorem E_X2_bestFit {d : Nat} {x0 : Nat} {h : AH} (hd : 9 ≤ d) : evC d 26 [.ref x0] h = retR [] false (ev (d - 1) t_X2_bestFit ([.ref x0, .retAddr 0, .retAddr 0, .retAddr 0, .retAddr 0, .retAddr 0], [], h)) := evC_eq hd P_X2_bestFit (Nat.le_of_ble_eq_true rfl)
theorem P_X3_init : PP 27 = some (1, t_X3_init, [], false) := pD_1 2
theorem E_X3_init {d : Nat} {x0 : Nat} {h : AH} (hd : 9 ≤ d) : evC d 27 [.ref x0] h = retR [] false (ev (d - 1) t_X3_init ([.ref x0], [], h)) := evC_eq hd P_X3_init (Nat.le_of_ble_eq_true rfl)
theorem P_X3_begin : PP 28 = some (3, t_X3_begin, [], false) := pD_1 3
theorem E_X3_begin {d : Nat} {x0 : Nat} {x1 : Int32} {h : AH} (hd : 9 ≤ d) : evC d 28 [.ref x0, .int x1] h = retR [] false (ev (d - 1) t_X3_begin ([.ref x0, .int x1, .retAddr 0], [], h)) := evC_eq hd P_X3_begin (Nat.le_of_ble_eq_true rfl)
theorem P_X3_copyFrom : PP 29 = some (2, t_X3_copyFrom, [], false) := pD_1 4
theorem E_X3_copyFrom {d : Nat} {x0 : Nat} {x1 : Nat} {h : AH} (hd : 9 ≤ d) : evC d 29 [.ref x0, .ref x1] h = retR [] false (ev (d - 1) t_X3_copyFrom ([.ref x0, .ref x1], [], h)) := evC_eq hd P_X3_copyFrom (Nat.le_of_ble_eq_true rfl)
theorem P_X3_goneBits : PP 30 = some (2, t_X3_goneBits, [], false) := pD_1 5
theorem E_X3_goneBits {d : Nat} {x0 : Nat} {x1 : Int32} {h : AH} (hd : 9 ≤ d) : evC d 30 [.ref x0, .int x1] h = retR [] false (ev (d - 1) t_X3_goneBits ([.ref x0, .int x1], [], h)) := evC_eq hd P_X3_goneBits (Nat.le_of_ble_eq_true rfl)
theorem P_X3_placeOf : PP 31 = some (2, t_X3_placeOf, [], false) := pD_1 6
theorem E_X3_placeOf {d : Nat} {x0 : Nat} {x1 : Int32} {h : AH} (hd : 9 ≤ d) : evC d 31 [.ref x0, .int x1] h = retR [] false (ev (d - 1) t_X3_placeOf ([.ref x0, .int x1], [], h)) := evC_eq hd P_X3_placeOf (Nat.le_of_ble_eq_true rfl)
theorem P_X3_unseen : PP 32 = some (4, t_X3_unseen, [], false) := pD_1 7
theorem E_X3_unseen {d : Nat} {x0 : Nat} {x1 : Int32} {h : AH} (hd : 9 ≤ d) : evC d 32 [.ref x0, .int x1] h = retR [] false (ev (d - 1) t_X3_unseen ([.ref x0, .int x1, .retAddr 0, .retAddr 0], [], h)) := evC_eq hd P_X3_unseen (Nat.le_of_ble_eq_true rfl)
theorem P_X3_tellFacts : PP 33 = some (4, t_X3_tellFacts, [], false) := pD_1 8
theorem E_X3_tellFacts {d : Nat} {x0 : Nat} {x1 : Int32} {x2 : Nat} {x3 : Nat} {h : AH} (hd : 9 ≤ d) : evC d 33 [.ref x0, .int x1, .ref x2, .ref x3] h = retR [] false (ev (d - 1) t_X3_tellFacts ([.ref x0, .int x1, .ref x2, .ref x3], [], h)) := evC_eq hd P_X3_tellFacts (Nat.le_of_ble_eq_true rfl)
theorem P_X3_lookAt : PP 34 = some (4, t_X3_lookAt, [], false) := pD_1 9
theorem E_X3_lookAt {d : Nat} {x0 : Nat} {x1 : Int32} {x2 : Nat} {x3 : Nat} {h : AH} (hd : 9 ≤ d) : evC d 34 [.ref x0, .int x1, .ref x2, .ref x3] h = retR [] false (ev (d - 1) t_X3_lookAt ([.ref x0, .int x1, .ref x2, .ref x3], [], h)) := evC_eq hd P_X3_lookAt (Nat.le_of_ble_eq_true rfl)
theorem P_X3_giveStar : PP 35 = some (2, t_X3_giveStar, [], false) := pD_1 10
theorem E_X3_giveStar {d : Nat} {x0 : Nat} {x1 : Int32} {h : AH} (hd : 9 ≤ d) : evC d 35 [.ref x0, .int x1] h = retR [] false (ev (d - 1) t_X3_giveStar ([.ref x0, .int x1], [], h)) := evC_eq hd P_X3_giveStar (Nat.le_of_ble_eq_true rfl)
theorem P_X3_throwOut : PP 36 = some (2, t_X3_throwOut, [], false) := pD_1 11
theorem E_X3_throwOut {d : Nat} {x0 : Nat} {x1 : Int32} {h : AH} (hd : 9 ≤ d) : evC d 36 [.ref x0, .int x1] h = retR [] false (ev (d - 1) t_X3_throwOut ([.ref x0, .int x1], [], h)) := evC_eq hd P_X3_throwOut (Nat.le_of_ble_eq_true rfl)
theorem P_X3_takeBack : PP 37 = some (2, t_X3_takeBack, [], false) := pD_1 12
theorem E_X3_takeBack {d : Nat} {x0 : Nat} {x1 : Int32} {h : AH} (hd : 9 ≤ d) : evC d 37 [.ref x0, .int x1] h = retR [] false (ev (d - 1) t_X3_takeBack ([.ref x0, .int x1], [], h)) := evC_eq hd P_X3_takeBack (Nat.le_of_ble_eq_true rfl)
theorem P_X3_takeRest : PP 38 = some (1, t_X3_takeRest, [], false) := pD_1 13
theorem E_X3_takeRest {d : Nat} {x0 : Nat} {h : AH} (hd : 9 ≤ d) : evC d 38 [.ref x0] h = retR [] false (ev (d - 1) t_X3_takeRest ([.ref x0], [], h)) := evC_eq hd P_X3_takeRest (Nat.le_of_ble_eq_true rfl)
theorem P_X3_passEvening : PP 39 = some (3, t_X3_passEvening, [], false) := pD_1 14
theorem E_X3_passEvening {d : Nat} {x0 : Nat} {x1 : Int32} {h : AH} (hd : 9 ≤ d) : evC d 39 [.ref x0, .int x1] h = retR [] false (ev (d - 1) t_X3_passEvening ([.ref x0, .int x1, .retAddr 0], [], h)) := evC_eq hd P_X3_passEvening (Nat.le_of_ble_eq_true rfl)
theorem P_X3_drift : PP 40 = some (11, t_X3_drift, [], false) := pD_1 15
theorem E_X3_drift {d : Nat} {x0 : Nat} {x1 : Int32} {x2 : Int32} {x3 : Int32} {x4 : Int32} {x5 : Nat} {x6 : Nat} {h : AH} (hd : 9 ≤ d) : evC d 40 [.ref x0, .int x1, .int x2, .int x3, .int x4, .ref x5, .ref x6] h = retR [] false (ev (d - 1) t_X3_drift ([.ref x0, .int x1, .int x2, .int x3, .int x4, .ref x5, .ref x6, .retAddr 0, .retAddr 0, .retAddr 0, .retAddr 0], [], h)) := evC_eq hd P_X3_drift (Nat.le_of_ble_eq_true rfl)
theorem P_X3_nextSeed : PP 41 = some (1, t_X3_nextSeed, [], false) := pD_1 16
theorem E_X3_nextSeed {d : Nat} {x0 : Int32} {h : AH} (hd : 9 ≤ d) : evC d 41 [.int x0] h = retR [] false (ev (d - 1) t_X3_nextSeed ([.int x0], [], h)) := evC_eq hd P_X3_nextSeed (Nat.le_of_ble_eq_true rfl)
theorem P_X3_drawn : PP 42 = some (1, t_X3_drawn, [], false) := pD_1 17
theorem E_X3_drawn {d : Nat} {x0 : Int32} {h : AH} (hd : 9 ≤ d) : evC d 42 [.int x0] h = retR [] false (ev (d - 1) t_X3_drawn ([.int x0], [], h)) := evC_eq hd P_X3_drawn (Nat.le_of_ble_eq_true rfl)
theorem P_X3_keptPicture : PP 43 = some (4, t_X3_keptPicture, [], false) := pD_1 18
theorem E_X3_keptPicture {d : Nat} {x0 : Nat} {x1 : Int32} {h : AH} (hd : 9 ≤ d) : evC d 43 [.ref x0, .int x1] h = retR [] false (ev (d - 1) t_X3_keptPicture ([.ref x0, .int x1, .retAddr 0, .retAddr 0], [], h)) := evC_eq hd P_X3_keptPicture (Nat.le_of_ble_eq_true rfl)
theorem P_X4_init : PP 44 = some (1, t_X4_init, [], false) := pD_1 19
theorem E_X4_init {d : Nat} {x0 : Nat} {h : AH} (hd : 9 ≤ d) : evC d 44 [.ref x0] h = retR [] false (ev (d - 1) t_X4_init ([.ref x0], [], h)) := evC_eq hd P_X4_init (Nat.le_of_ble_eq_true rfl)
theorem P_X4_arrange : PP 45 = some (8, t_X4_arrange, [], false) := pD_1 20
theorem E_X4_arrange {d : Nat} {x0 : Nat} {x1 : Int32} {x2 : Nat} {x3 : Nat} {x4 : Nat} {h : AH} (hd : 9 ≤ d) : evC d 45 [.ref x0, .int x1, .ref x2, .ref x3, .ref x4] h = retR [] false (ev (d - 1) t_X4_arrange ([.ref x0, .int x1, .ref x2, .ref x3, .ref x4, .retAddr 0, .retAddr 0, .retAddr 0], [], h)) := evC_eq hd P_X4_arrange (Nat.le_of_ble_eq_true rfl)
theorem P_X4_tryNext : PP 46 = some (5, t_X4_tryNext, [], false) := pD_1 21
theorem E_X4_tryNext {d : Nat} {x0 : Nat} {x1 : Int32} {x2 : Int32} {x3 : Int32} {h : AH} (hd : 9 ≤ d) : evC d 46 [.ref x0, .int x1, .int x2, .int x3] h = retR [] false (ev (d - 1) t_X4_tryNext ([.ref x0, .int x1, .int x2, .int x3, .retAddr 0], [], h)) := evC_eq hd P_X4_tryNext (Nat.le_of_ble_eq_true rfl)
theorem P_X4_lossOf : PP 47 = some (10, t_X4_lossOf, [], false) := pD_1 22
theorem E_X4_lossOf {d : Nat} {x0 : Nat} {x1 : Int32} {x2 : Int32} {x3 : Nat} {x4 : Nat} {x5 : Nat} {h : AH} (hd : 9 ≤ d) : evC d 47 [.ref x0, .int x1, .int x2, .ref x3, .ref x4, .ref x5] h = retR [] false (ev (d - 1) t_X4_lossOf ([.ref x0, .int x1, .int x2, .ref x3, .ref x4, .ref x5, .retAddr 0, .retAddr 0, .retAddr 0, .retAddr 0], [], h)) := evC_eq hd P_X4_lossOf (Nat.le_of_ble_eq_true rfl)
theorem P_X4_leastLost : PP 48 = some (1, t_X4_leastLost, [], false) := pD_1 23
theorem E_X4_leastLost {d : Nat} {x0 : Nat} {h : AH} (hd : 9 ≤ d) : evC d 48 [.ref x0] h = retR [] false (ev (d - 1) t_X4_leastLost ([.ref x0], [], h)) := evC_eq hd P_X4_leastLost (Nat.le_of_ble_eq_true rfl)
theorem P_X4_pictureAt : PP 49 = some (4, t_X4_pictureAt, [], false) := pD_1 24
theorem E_X4_pictureAt {d : Nat} {x0 : Nat} {x1 : Int32} {h : AH} (hd : 9 ≤ d) : evC d 49 [.ref x0, .int x1] h = retR [] false (ev (d - 1) t_X4_pictureAt ([.ref x0, .int x1, .retAddr 0, .retAddr 0], [], h)) := evC_eq hd P_X4_pictureAt (Nat.le_of_ble_eq_true rfl)
theorem P_X5_inLeastTerms : PP 50 = some (7, t_X5_inLeastTerms, [], false) := pD_2 0
theorem E_X5_inLeastTerms {d : Nat} {x0 : Int64} {x1 : Int64} {x2 : Int32} {h : AH} (hd : 9 ≤ d) : evC d 50 [.long x0, .long x1, .int x2] h = retR [] false (ev (d - 1) t_X5_inLeastTerms ([.long x0, .retAddr 0, .long x1, .retAddr 0, .int x2, .retAddr 0, .retAddr 0], [], h)) := evC_eq hd P_X5_inLeastTerms (Nat.le_of_ble_eq_true rfl)
theorem P_X5_commonDivisor : PP 51 = some (11, t_X5_commonDivisor, [], false) := pD_2 1
theorem E_X5_commonDivisor {d : Nat} {x0 : Int64} {x1 : Int64} {h : AH} (hd : 9 ≤ d) : evC d 51 [.long x0, .long x1] h = retR [] false (ev (d - 1) t_X5_commonDivisor ([.long x0, .retAddr 0, .long x1, .retAddr 0, .retAddr 0, .retAddr 0, .retAddr 0, .retAddr 0, .retAddr 0, .retAddr 0, .retAddr 0], [], h)) := evC_eq hd P_X5_commonDivisor (Nat.le_of_ble_eq_true rfl)
theorem P_X5_power : PP 52 = some (6, t_X5_power, [], false) := pD_2 2
theorem E_X5_power {d : Nat} {x0 : Int64} {x1 : Int32} {h : AH} (hd : 9 ≤ d) : evC d 52 [.long x0, .int x1] h = retR [] false (ev (d - 1) t_X5_power ([.long x0, .retAddr 0, .int x1, .retAddr 0, .retAddr 0, .retAddr 0], [], h)) := evC_eq hd P_X5_power (Nat.le_of_ble_eq_true rfl)
theorem P_X5_lineShares : PP 53 = some (5, t_X5_lineShares, [], false) := pD_2 3
theorem E_X5_lineShares {d : Nat} {x0 : Int32} {x1 : Int32} {h : AH} (hd : 9 ≤ d) : evC d 53 [.int x0, .int x1] h = retR [] false (ev (d - 1) t_X5_lineShares ([.int x0, .int x1, .retAddr 0, .retAddr 0, .retAddr 0], [], h)) := evC_eq hd P_X5_lineShares (Nat.le_of_ble_eq_true rfl)
theorem P_X5_rounds : PP 54 = some (3, t_X5_rounds, [], false) := pD_2 4
theorem E_X5_rounds {d : Nat} {x0 : Int32} {h : AH} (hd : 9 ≤ d) : evC d 54 [.int x0] h = retR [] false (ev (d - 1) t_X5_rounds ([.int x0, .retAddr 0, .retAddr 0], [], h)) := evC_eq hd P_X5_rounds (Nat.le_of_ble_eq_true rfl)
theorem P_X5_mostTimes : PP 55 = some (7, t_X5_mostTimes, [], false) := pD_2 5
theorem E_X5_mostTimes {d : Nat} {x0 : Int32} {x1 : Int32} {h : AH} (hd : 9 ≤ d) : evC d 55 [.int x0, .int x1] h = retR [] false (ev (d - 1) t_X5_mostTimes ([.int x0, .int x1, .retAddr 0, .retAddr 0, .retAddr 0, .retAddr 0, .retAddr 0], [], h)) := evC_eq hd P_X5_mostTimes (Nat.le_of_ble_eq_true rfl)
theorem P_X5_eyesOpen : PP 56 = some (5, t_X5_eyesOpen, [], false) := pD_2 6
theorem E_X5_eyesOpen {d : Nat} {x0 : Int32} {x1 : Int32} {x2 : Int32} {h : AH} (hd : 9 ≤ d) : evC d 56 [.int x0, .int x1, .int x2] h = retR [] false (ev (d - 1) t_X5_eyesOpen ([.int x0, .int x1, .int x2, .retAddr 0, .retAddr 0], [], h)) := evC_eq hd P_X5_eyesOpen (Nat.le_of_ble_eq_true rfl)
theorem P_X6_init : PP 57 = some (1, t_X6_init, [], false) := pD_2 7
theorem E_X6_init {d : Nat} {x0 : Nat} {h : AH} (hd : 9 ≤ d) : evC d 57 [.ref x0] h = retR [] false (ev (d - 1) t_X6_init ([.ref x0], [], h)) := evC_eq hd P_X6_init (Nat.le_of_ble_eq_true rfl)
theorem P_X6_read : PP 58 = some (3, t_X6_read, [], false) := pD_2 8
theorem E_X6_read {d : Nat} {x0 : Nat} {x1 : Nat} {x2 : Int32} {h : AH} (hd : 9 ≤ d) : evC d 58 [.ref x0, .ref x1, .int x2] h = retR [] false (ev (d - 1) t_X6_read ([.ref x0, .ref x1, .int x2], [], h)) := evC_eq hd P_X6_read (Nat.le_of_ble_eq_true rfl)
theorem P_X6_readSteps : PP 59 = some (5, t_X6_readSteps, [], false) := pD_2 9
theorem E_X6_readSteps {d : Nat} {x0 : Nat} {x1 : Nat} {x2 : Int32} {x3 : Int32} {h : AH} (hd : 9 ≤ d) : evC d 59 [.ref x0, .ref x1, .int x2, .int x3] h = retR [] false (ev (d - 1) t_X6_readSteps ([.ref x0, .ref x1, .int x2, .int x3, .retAddr 0], [], h)) := evC_eq hd P_X6_readSteps (Nat.le_of_ble_eq_true rfl)
theorem P_X6_readStep : PP 60 = some (6, t_X6_readStep, [], false) := pD_2 10
theorem E_X6_readStep {d : Nat} {x0 : Nat} {x1 : Nat} {x2 : Int32} {x3 : Int32} {h : AH} (hd : 9 ≤ d) : evC d 60 [.ref x0, .ref x1, .int x2, .int x3] h = retR [] false (ev (d - 1) t_X6_readStep ([.ref x0, .ref x1, .int x2, .int x3, .retAddr 0, .retAddr 0], [], h)) := evC_eq hd P_X6_readStep (Nat.le_of_ble_eq_true rfl)
theorem P_X6_readAgain : PP 61 = some (5, t_X6_readAgain, [], false) := pD_2 11
theorem E_X6_readAgain {d : Nat} {x0 : Nat} {x1 : Nat} {x2 : Int32} {x3 : Int32} {x4 : Int32} {h : AH} (hd : 9 ≤ d) : evC d 61 [.ref x0, .ref x1, .int x2, .int x3, .int x4] h = retR [] false (ev (d - 1) t_X6_readAgain ([.ref x0, .ref x1, .int x2, .int x3, .int x4], [], h)) := evC_eq hd P_X6_readAgain (Nat.le_of_ble_eq_true rfl)
theorem P_X6_stepKind : PP 62 = some (1, t_X6_stepKind, [], false) := pD_2 12
theorem E_X6_stepKind {d : Nat} {x0 : Nat} {h : AH} (hd : 9 ≤ d) : evC d 62 [.ref x0] h = retR [] false (ev (d - 1) t_X6_stepKind ([.ref x0], [], h)) := evC_eq hd P_X6_stepKind (Nat.le_of_ble_eq_true rfl)
theorem P_X6_perform : PP 63 = some (4, t_X6_perform, [], false) := pD_2 13
theorem E_X6_perform {d : Nat} {x0 : Nat} {x1 : Nat} {x2 : Nat} {x3 : Nat} {h : AH} (hd : 9 ≤ d) : evC d 63 [.ref x0, .ref x1, .ref x2, .ref x3] h = retR [] false (ev (d - 1) t_X6_perform ([.ref x0, .ref x1, .ref x2, .ref x3], [], h)) := evC_eq hd P_X6_perform (Nat.le_of_ble_eq_true rfl)
theorem P_X6_performPart : PP 64 = some (8, t_X6_performPart, [], false) := pD_2 14
theorem E_X6_performPart {d : Nat} {x0 : Nat} {x1 : Int32} {x2 : Int32} {x3 : Nat} {x4 : Nat} {x5 : Nat} {h : AH} (hd : 9 ≤ d) : evC d 64 [.ref x0, .int x1, .int x2, .ref x3, .ref x4, .ref x5] h = retR [] false (ev (d - 1) t_X6_performPart ([.ref x0, .int x1, .int x2, .ref x3, .ref x4, .ref x5, .retAddr 0, .retAddr 0], [], h)) := evC_eq hd P_X6_performPart (Nat.le_of_ble_eq_true rfl)
theorem P_X6_performStep : PP 65 = some (5, t_X6_performStep, [], false) := pD_2 15
theorem E_X6_performStep {d : Nat} {x0 : Nat} {x1 : Int32} {x2 : Nat} {x3 : Nat} {x4 : Nat} {h : AH} (hd : 9 ≤ d) : evC d 65 [.ref x0, .int x1, .ref x2, .ref x3, .ref x4] h = retR [] false (ev (d - 1) t_X6_performStep ([.ref x0, .int x1, .ref x2, .ref x3, .ref x4], [], h)) := evC_eq hd P_X6_performStep (Nat.le_of_ble_eq_true rfl)
theorem P_X7_init : PP 66 = some (1, t_X7_init, [], false) := pD_2 16
theorem E_X7_init {d : Nat} {x0 : Nat} {h : AH} (hd : 9 ≤ d) : evC d 66 [.ref x0] h = retR [] false (ev (d - 1) t_X7_init ([.ref x0], [], h)) := evC_eq hd P_X7_init (Nat.le_of_ble_eq_true rfl)
theorem P_X7_setDefault : PP 67 = some (1, t_X7_setDefault, [], false) := pD_2 17
theorem E_X7_setDefault {d : Nat} {x0 : Nat} {h : AH} (hd : 9 ≤ d) : evC d 67 [.ref x0] h = retR [] false (ev (d - 1) t_X7_setDefault ([.ref x0], [], h)) := evC_eq hd P_X7_setDefault (Nat.le_of_ble_eq_true rfl)
theorem P_X7_read : PP 68 = some (2, t_X7_read, [], false) := pD_2 18
theorem E_X7_read {d : Nat} {x0 : Nat} {x1 : Nat} {h : AH} (hd : 9 ≤ d) : evC d 68 [.ref x0, .ref x1] h = retR [] false (ev (d - 1) t_X7_read ([.ref x0, .ref x1], [], h)) := evC_eq hd P_X7_read (Nat.le_of_ble_eq_true rfl)
theorem P_X7_factCode : PP 69 = some (1, t_X7_factCode, [], false) := pD_2 19
theorem E_X7_factCode {d : Nat} {x0 : Int32} {h : AH} (hd : 9 ≤ d) : evC d 69 [.int x0] h = retR [] false (ev (d - 1) t_X7_factCode ([.int x0], [], h)) := evC_eq hd P_X7_factCode (Nat.le_of_ble_eq_true rfl)
theorem P_X7_put : PP 70 = some (2, t_X7_put, [], false) := pD_2 20
theorem E_X7_put {d : Nat} {x0 : Nat} {x1 : Int32} {h : AH} (hd : 9 ≤ d) : evC d 70 [.ref x0, .int x1] h = retR [] false (ev (d - 1) t_X7_put ([.ref x0, .int x1], [], h)) := evC_eq hd P_X7_put (Nat.le_of_ble_eq_true rfl)
theorem P_X7_readSum : PP 71 = some (5, t_X7_readSum, [], false) := pD_2 21
theorem E_X7_readSum {d : Nat} {x0 : Nat} {x1 : Nat} {x2 : Int32} {h : AH} (hd : 9 ≤ d) : evC d 71 [.ref x0, .ref x1, .int x2] h = retR [] false (ev (d - 1) t_X7_readSum ([.ref x0, .ref x1, .int x2, .retAddr 0, .retAddr 0], [], h)) := evC_eq hd P_X7_readSum (Nat.le_of_ble_eq_true rfl)
theorem P_X7_readProduct : PP 72 = some (5, t_X7_readProduct, [], false) := pD_2 22
theorem E_X7_readProduct {d : Nat} {x0 : Nat} {x1 : Nat} {x2 : Int32} {h : AH} (hd : 9 ≤ d) : evC d 72 [.ref x0, .ref x1, .int x2] h = retR [] false (ev (d - 1) t_X7_readProduct ([.ref x0, .ref x1, .int x2, .retAddr 0, .retAddr 0], [], h)) := evC_eq hd P_X7_readProduct (Nat.le_of_ble_eq_true rfl)
theorem P_X7_readUnit : PP 73 = some (4, t_X7_readUnit, [], false) := pD_2 23
theorem E_X7_readUnit {d : Nat} {x0 : Nat} {x1 : Nat} {x2 : Int32} {h : AH} (hd : 9 ≤ d) : evC d 73 [.ref x0, .ref x1, .int x2] h = retR [] false (ev (d - 1) t_X7_readUnit ([.ref x0, .ref x1, .int x2, .retAddr 0], [], h)) := evC_eq hd P_X7_readUnit (Nat.le_of_ble_eq_true rfl)
theorem P_X7_readInside : PP 74 = some (3, t_X7_readInside, [], false) := pD_2 24
theorem E_X7_readInside {d : Nat} {x0 : Nat} {x1 : Nat} {x2 : Int32} {h : AH} (hd : 9 ≤ d) : evC d 74 [.ref x0, .ref x1, .int x2] h = retR [] false (ev (d - 1) t_X7_readInside ([.ref x0, .ref x1, .int x2], [], h)) := evC_eq hd P_X7_readInside (Nat.le_of_ble_eq_true rfl)
theorem P_X7_readPair : PP 75 = some (4, t_X7_readPair, [], false) := pD_3 0
theorem E_X7_readPair {d : Nat} {x0 : Nat} {x1 : Nat} {x2 : Int32} {x3 : Int32} {h : AH} (hd : 9 ≤ d) : evC d 75 [.ref x0, .ref x1, .int x2, .int x3] h = retR [] false (ev (d - 1) t_X7_readPair ([.ref x0, .ref x1, .int x2, .int x3], [], h)) := evC_eq hd P_X7_readPair (Nat.le_of_ble_eq_true rfl)
theorem P_X7_factNamed : PP 76 = some (1, t_X7_factNamed, [], false) := pD_3 1
theorem E_X7_factNamed {d : Nat} {x0 : Nat} {h : AH} (hd : 9 ≤ d) : evC d 76 [.ref x0] h = retR [] false (ev (d - 1) t_X7_factNamed ([.ref x0], [], h)) := evC_eq hd P_X7_factNamed (Nat.le_of_ble_eq_true rfl)
theorem P_X7_tellShot : PP 77 = some (5, t_X7_tellShot, [], false) := pD_3 2
theorem E_X7_tellShot {d : Nat} {x0 : Nat} {x1 : Int32} {x2 : Int32} {x3 : Int32} {x4 : Int32} {h : AH} (hd : 9 ≤ d) : evC d 77 [.ref x0, .int x1, .int x2, .int x3, .int x4] h = retR [] false (ev (d - 1) t_X7_tellShot ([.ref x0, .int x1, .int x2, .int x3, .int x4], [], h)) := evC_eq hd P_X7_tellShot (Nat.le_of_ble_eq_true rfl)
theorem P_X7_tellMood : PP 78 = some (5, t_X7_tellMood, [], false) := pD_3 3
theorem E_X7_tellMood {d : Nat} {x0 : Nat} {x1 : Int32} {x2 : Int32} {x3 : Int32} {x4 : Int32} {h : AH} (hd : 9 ≤ d) : evC d 78 [.ref x0, .int x1, .int x2, .int x3, .int x4] h = retR [] false (ev (d - 1) t_X7_tellMood ([.ref x0, .int x1, .int x2, .int x3, .int x4], [], h)) := evC_eq hd P_X7_tellMood (Nat.le_of_ble_eq_true rfl)
theorem P_X7_think : PP 79 = some (4, t_X7_think, [], false) := pD_3 4
theorem E_X7_think {d : Nat} {x0 : Nat} {h : AH} (hd : 9 ≤ d) : evC d 79 [.ref x0] h = retR [] false (ev (d - 1) t_X7_think ([.ref x0, .retAddr 0, .retAddr 0, .retAddr 0], [], h)) := evC_eq hd P_X7_think (Nat.le_of_ble_eq_true rfl)
theorem P_X7_join : PP 80 = some (3, t_X7_join, [], false) := pD_3 5
theorem E_X7_join {d : Nat} {x0 : Int32} {x1 : Int32} {x2 : Int32} {h : AH} (hd : 9 ≤ d) : evC d 80 [.int x0, .int x1, .int x2] h = retR [] false (ev (d - 1) t_X7_join ([.int x0, .int x1, .int x2], [], h)) := evC_eq hd P_X7_join (Nat.le_of_ble_eq_true rfl)
theorem P_X8_init : PP 81 = some (1, t_X8_init, [], false) := pD_3 6
theorem E_X8_init {d : Nat} {x0 : Nat} {h : AH} (hd : 9 ≤ d) : evC d 81 [.ref x0] h = retR [] false (ev (d - 1) t_X8_init ([.ref x0], [], h)) := evC_eq hd P_X8_init (Nat.le_of_ble_eq_true rfl)
theorem P_X8_put : PP 82 = some (3, t_X8_put, [], false) := pD_3 7
theorem E_X8_put {d : Nat} {x0 : Nat} {x1 : Int32} {h : AH} (hd : 9 ≤ d) : evC d 82 [.ref x0, .int x1] h = retR [] false (ev (d - 1) t_X8_put ([.ref x0, .int x1, .retAddr 0], [], h)) := evC_eq hd P_X8_put (Nat.le_of_ble_eq_true rfl)
theorem P_X8_open : PP 83 = some (2, t_X8_open, [], false) := pD_3 8
theorem E_X8_open {d : Nat} {x0 : Nat} {x1 : Int32} {h : AH} (hd : 9 ≤ d) : evC d 83 [.ref x0, .int x1] h = retR [] false (ev (d - 1) t_X8_open ([.ref x0, .int x1], [], h)) := evC_eq hd P_X8_open (Nat.le_of_ble_eq_true rfl)
theorem P_X8_isSound : PP 84 = some (1, t_X8_isSound, [], false) := pD_3 9
theorem E_X8_isSound {d : Nat} {x0 : Nat} {h : AH} (hd : 9 ≤ d) : evC d 84 [.ref x0] h = retR [] false (ev (d - 1) t_X8_isSound ([.ref x0], [], h)) := evC_eq hd P_X8_isSound (Nat.le_of_ble_eq_true rfl)
theorem P_X8_fail : PP 85 = some (3, t_X8_fail, [], false) := pD_3 10
theorem E_X8_fail {d : Nat} {x0 : Nat} {x1 : Int32} {x2 : Int32} {h : AH} (hd : 9 ≤ d) : evC d 85 [.ref x0, .int x1, .int x2] h = retR [] false (ev (d - 1) t_X8_fail ([.ref x0, .int x1, .int x2], [], h)) := evC_eq hd P_X8_fail (Nat.le_of_ble_eq_true rfl)
theorem P_X8_failHere : PP 86 = some (1, t_X8_failHere, [], false) := pD_3 11
theorem E_X8_failHere {d : Nat} {x0 : Nat} {h : AH} (hd : 9 ≤ d) : evC d 86 [.ref x0] h = retR [] false (ev (d - 1) t_X8_failHere ([.ref x0], [], h)) := evC_eq hd P_X8_failHere (Nat.le_of_ble_eq_true rfl)
theorem P_X8_peek : PP 87 = some (1, t_X8_peek, [], false) := pD_3 12
theorem E_X8_peek {d : Nat} {x0 : Nat} {h : AH} (hd : 9 ≤ d) : evC d 87 [.ref x0] h = retR [] false (ev (d - 1) t_X8_peek ([.ref x0], [], h)) := evC_eq hd P_X8_peek (Nat.le_of_ble_eq_true rfl)
theorem P_X8_hasMore : PP 88 = some (1, t_X8_hasMore, [], false) := pD_3 13
theorem E_X8_hasMore {d : Nat} {x0 : Nat} {h : AH} (hd : 9 ≤ d) : evC d 88 [.ref x0] h = retR [] false (ev (d - 1) t_X8_hasMore ([.ref x0], [], h)) := evC_eq hd P_X8_hasMore (Nat.le_of_ble_eq_true rfl)
theorem P_X8_isAtDigit : PP 89 = some (1, t_X8_isAtDigit, [], false) := pD_3 14
theorem E_X8_isAtDigit {d : Nat} {x0 : Nat} {h : AH} (hd : 9 ≤ d) : evC d 89 [.ref x0] h = retR [] false (ev (d - 1) t_X8_isAtDigit ([.ref x0], [], h)) := evC_eq hd P_X8_isAtDigit (Nat.le_of_ble_eq_true rfl)
theorem P_X8_isAtLetter : PP 90 = some (1, t_X8_isAtLetter, [], false) := pD_3 15
theorem E_X8_isAtLetter {d : Nat} {x0 : Nat} {h : AH} (hd : 9 ≤ d) : evC d 90 [.ref x0] h = retR [] false (ev (d - 1) t_X8_isAtLetter ([.ref x0], [], h)) := evC_eq hd P_X8_isAtLetter (Nat.le_of_ble_eq_true rfl)
theorem P_X8_takeSign : PP 91 = some (2, t_X8_takeSign, [], false) := pD_3 16
theorem E_X8_takeSign {d : Nat} {x0 : Nat} {x1 : Int32} {h : AH} (hd : 9 ≤ d) : evC d 91 [.ref x0, .int x1] h = retR [] false (ev (d - 1) t_X8_takeSign ([.ref x0, .int x1], [], h)) := evC_eq hd P_X8_takeSign (Nat.le_of_ble_eq_true rfl)
theorem P_X8_requireSign : PP 92 = some (2, t_X8_requireSign, [], false) := pD_3 17
theorem E_X8_requireSign {d : Nat} {x0 : Nat} {x1 : Int32} {h : AH} (hd : 9 ≤ d) : evC d 92 [.ref x0, .int x1] h = retR [] false (ev (d - 1) t_X8_requireSign ([.ref x0, .int x1], [], h)) := evC_eq hd P_X8_requireSign (Nat.le_of_ble_eq_true rfl)
theorem P_X8_takeNumber : PP 93 = some (4, t_X8_takeNumber, [], false) := pD_3 18
theorem E_X8_takeNumber {d : Nat} {x0 : Nat} {x1 : Int32} {x2 : Int32} {h : AH} (hd : 9 ≤ d) : evC d 93 [.ref x0, .int x1, .int x2] h = retR [] false (ev (d - 1) t_X8_takeNumber ([.ref x0, .int x1, .int x2, .retAddr 0], [], h)) := evC_eq hd P_X8_takeNumber (Nat.le_of_ble_eq_true rfl)
theorem P_X8_takeWord : PP 94 = some (1, t_X8_takeWord, [], false) := pD_3 19
theorem E_X8_takeWord {d : Nat} {x0 : Nat} {h : AH} (hd : 9 ≤ d) : evC d 94 [.ref x0] h = retR [] false (ev (d - 1) t_X8_takeWord ([.ref x0], [], h)) := evC_eq hd P_X8_takeWord (Nat.le_of_ble_eq_true rfl)
theorem P_X8_isWord : PP 95 = some (3, t_X8_isWord, [], false) := pD_3 20
theorem E_X8_isWord {d : Nat} {x0 : Nat} {x1 : Nat} {h : AH} (hd : 9 ≤ d) : evC d 95 [.ref x0, .ref x1] h = retR [] false (ev (d - 1) t_X8_isWord ([.ref x0, .ref x1, .retAddr 0], [], h)) := evC_eq hd P_X8_isWord (Nat.le_of_ble_eq_true rfl)
theorem P_X8_isDigit : PP 96 = some (1, t_X8_isDigit, [], false) := pD_3 21
theorem E_X8_isDigit {d : Nat} {x0 : Int32} {h : AH} (hd : 9 ≤ d) : evC d 96 [.int x0] h = retR [] false (ev (d - 1) t_X8_isDigit ([.int x0], [], h)) := evC_eq hd P_X8_isDigit (Nat.le_of_ble_eq_true rfl)
theorem P_X8_isLetter : PP 97 = some (1, t_X8_isLetter, [], false) := pD_3 22
theorem E_X8_isLetter {d : Nat} {x0 : Int32} {h : AH} (hd : 9 ≤ d) : evC d 97 [.int x0] h = retR [] false (ev (d - 1) t_X8_isLetter ([.int x0], [], h)) := evC_eq hd P_X8_isLetter (Nat.le_of_ble_eq_true rfl)
theorem P_X9_init : PP 98 = some (1, t_X9_init, [], false) := pD_3 23
theorem E_X9_init {d : Nat} {x0 : Nat} {h : AH} (hd : 9 ≤ d) : evC d 98 [.ref x0] h = retR [] false (ev (d - 1) t_X9_init ([.ref x0], [], h)) := evC_eq hd P_X9_init (Nat.le_of_ble_eq_true rfl)
theorem P_X9_feed : PP 99 = some (6, t_X9_feed, [], false) := pD_3 24
theorem E_X9_feed {d : Nat} {x0 : Nat} {x1 : Int32} {x2 : Int32} {x3 : Int32} {x4 : Int32} {x5 : Int32} {h : AH} (hd : 9 ≤ d) : evC d 99 [.ref x0, .int x1, .int x2, .int x3, .int x4, .int x5] h = retR [] false (ev (d - 1) t_X9_feed ([.ref x0, .int x1, .int x2, .int x3, .int x4, .int x5], [], h)) := evC_eq hd P_X9_feed (Nat.le_of_ble_eq_true rfl)
theorem P_X9_summer : PP 100 = some (3, t_X9_summer, [], true) := pD_4 0
theorem E_X9_summer {d : Nat} {x0 : Nat} {x1 : Int32} {h : AH} (hd : 9 ≤ d) : evC d 100 [.ref x0, .int x1] h = retR [] true (ev (d - 1) t_X9_summer ([.ref x0, .int x1, .retAddr 0], [], h)) := evC_eq hd P_X9_summer (Nat.le_of_ble_eq_true rfl)
theorem P_X9_law : PP 101 = some (3, t_X9_law, [], true) := pD_4 1
theorem E_X9_law {d : Nat} {x0 : Nat} {x1 : Int32} {h : AH} (hd : 9 ≤ d) : evC d 101 [.ref x0, .int x1] h = retR [] true (ev (d - 1) t_X9_law ([.ref x0, .int x1, .retAddr 0], [], h)) := evC_eq hd P_X9_law (Nat.le_of_ble_eq_true rfl)
theorem P_X9_work : PP 102 = some (3, t_X9_work, [], true) := pD_4 2
theorem E_X9_work {d : Nat} {x0 : Nat} {x1 : Int32} {h : AH} (hd : 9 ≤ d) : evC d 102 [.ref x0, .int x1] h = retR [] true (ev (d - 1) t_X9_work ([.ref x0, .int x1, .retAddr 0], [], h)) := evC_eq hd P_X9_work (Nat.le_of_ble_eq_true rfl)
theorem P_X9_clocks : PP 103 = some (3, t_X9_clocks, [], true) := pD_4 3
theorem E_X9_clocks {d : Nat} {x0 : Nat} {x1 : Int32} {h : AH} (hd : 9 ≤ d) : evC d 103 [.ref x0, .int x1] h = retR [] true (ev (d - 1) t_X9_clocks ([.ref x0, .int x1, .retAddr 0], [], h)) := evC_eq hd P_X9_clocks (Nat.le_of_ble_eq_true rfl)
theorem P_X9_fault : PP 104 = some (1, t_X9_fault, [], false) := pD_4 4
theorem E_X9_fault {d : Nat} {x0 : Nat} {h : AH} (hd : 9 ≤ d) : evC d 104 [.ref x0] h = retR [] false (ev (d - 1) t_X9_fault ([.ref x0], [], h)) := evC_eq hd P_X9_fault (Nat.le_of_ble_eq_true rfl)
theorem P_X9_undo : PP 105 = some (1, t_X9_undo, [], false) := pD_4 5
theorem E_X9_undo {d : Nat} {x0 : Nat} {h : AH} (hd : 9 ≤ d) : evC d 105 [.ref x0] h = retR [] false (ev (d - 1) t_X9_undo ([.ref x0], [], h)) := evC_eq hd P_X9_undo (Nat.le_of_ble_eq_true rfl)
theorem P_X9_told : PP 106 = some (2, t_X9_told, [], true) := pD_4 6
theorem E_X9_told {d : Nat} {x0 : Nat} {x1 : Int32} {h : AH} (hd : 9 ≤ d) : evC d 106 [.ref x0, .int x1] h = retR [] true (ev (d - 1) t_X9_told ([.ref x0, .int x1], [], h)) := evC_eq hd P_X9_told (Nat.le_of_ble_eq_true rfl)
theorem P_X9_picture : PP 107 = some (3, t_X9_picture, [], true) := pD_4 7
theorem E_X9_picture {d : Nat} {x0 : Nat} {x1 : Int32} {x2 : Int32} {h : AH} (hd : 9 ≤ d) : evC d 107 [.ref x0, .int x1, .int x2] h = retR [] true (ev (d - 1) t_X9_picture ([.ref x0, .int x1, .int x2], [], h)) := evC_eq hd P_X9_picture (Nat.le_of_ble_eq_true rfl)
theorem P_X9_person : PP 108 = some (3, t_X9_person, [], true) := pD_4 8
theorem E_X9_person {d : Nat} {x0 : Nat} {x1 : Int32} {x2 : Int32} {h : AH} (hd : 9 ≤ d) : evC d 108 [.ref x0, .int x1, .int x2] h = retR [] true (ev (d - 1) t_X9_person ([.ref x0, .int x1, .int x2], [], h)) := evC_eq hd P_X9_person (Nat.le_of_ble_eq_true rfl)
theorem P_X9_thought : PP 109 = some (2, t_X9_thought, [], true) := pD_4 9
theorem E_X9_thought {d : Nat} {x0 : Nat} {x1 : Int32} {h : AH} (hd : 9 ≤ d) : evC d 109 [.ref x0, .int x1] h = retR [] true (ev (d - 1) t_X9_thought ([.ref x0, .int x1], [], h)) := evC_eq hd P_X9_thought (Nat.le_of_ble_eq_true rfl)
theorem P_X9_would : PP 110 = some (9, t_X9_would, [], true) := pD_4 10
theorem E_X9_would {d : Nat} {x0 : Nat} {x1 : Int32} {x2 : Int32} {x3 : Int32} {x4 : Int32} {x5 : Int32} {x6 : Int32} {x7 : Int32} {x8 : Int32} {h : AH} (hd : 9 ≤ d) : evC d 110 [.ref x0, .int x1, .int x2, .int x3, .int x4, .int x5, .int x6, .int x7, .int x8] h = retR [] true (ev (d - 1) t_X9_would ([.ref x0, .int x1, .int x2, .int x3, .int x4, .int x5, .int x6, .int x7, .int x8], [], h)) := evC_eq hd P_X9_would (Nat.le_of_ble_eq_true rfl)
theorem P_X9_favourite : PP 111 = some (1, t_X9_favourite, [], false) := pD_4 11
theorem E_X9_favourite {d : Nat} {x0 : Nat} {h : AH} (hd : 9 ≤ d) : evC d 111 [.ref x0] h = retR [] false (ev (d - 1) t_X9_favourite ([.ref x0], [], h)) := evC_eq hd P_X9_favourite (Nat.le_of_ble_eq_true rfl)
theorem P_X9_books : PP 112 = some (2, t_X9_books, [], true) := pD_4 12
theorem E_X9_books {d : Nat} {x0 : Nat} {x1 : Int32} {h : AH} (hd : 9 ≤ d) : evC d 112 [.ref x0, .int x1] h = retR [] true (ev (d - 1) t_X9_books ([.ref x0, .int x1], [], h)) := evC_eq hd P_X9_books (Nat.le_of_ble_eq_true rfl)
theorem P_X9_cost : PP 113 = some (4, t_X9_cost, [], true) := pD_4 13
theorem E_X9_cost {d : Nat} {x0 : Nat} {x1 : Int32} {h : AH} (hd : 9 ≤ d) : evC d 113 [.ref x0, .int x1] h = retR [] true (ev (d - 1) t_X9_cost ([.ref x0, .int x1, .retAddr 0, .retAddr 0], [], h)) := evC_eq hd P_X9_cost (Nat.le_of_ble_eq_true rfl)
theorem P_X9_swap : PP 114 = some (10, t_X9_swap, [], true) := pD_4 14
theorem E_X9_swap {d : Nat} {x0 : Nat} {x1 : Int32} {x2 : Int32} {h : AH} (hd : 9 ≤ d) : evC d 114 [.ref x0, .int x1, .int x2] h = retR [] true (ev (d - 1) t_X9_swap ([.ref x0, .int x1, .int x2, .retAddr 0, .retAddr 0, .retAddr 0, .retAddr 0, .retAddr 0, .retAddr 0, .retAddr 0], [], h)) := evC_eq hd P_X9_swap (Nat.le_of_ble_eq_true rfl)
theorem P_X9_isBook : PP 115 = some (2, t_X9_isBook, [], true) := pD_4 15
theorem E_X9_isBook {d : Nat} {x0 : Nat} {x1 : Int32} {h : AH} (hd : 9 ≤ d) : evC d 115 [.ref x0, .int x1] h = retR [] true (ev (d - 1) t_X9_isBook ([.ref x0, .int x1], [], h)) := evC_eq hd P_X9_isBook (Nat.le_of_ble_eq_true rfl)
theorem P_X9_heaps : PP 116 = some (7, t_X9_heaps, [], true) := pD_4 16
theorem E_X9_heaps {d : Nat} {x0 : Nat} {x1 : Int32} {h : AH} (hd : 9 ≤ d) : evC d 116 [.ref x0, .int x1] h = retR [] true (ev (d - 1) t_X9_heaps ([.ref x0, .int x1, .retAddr 0, .retAddr 0, .retAddr 0, .retAddr 0, .retAddr 0], [], h)) := evC_eq hd P_X9_heaps (Nat.le_of_ble_eq_true rfl)
theorem P_X9_doubles : PP 117 = some (2, t_X9_doubles, [], true) := pD_4 17
theorem E_X9_doubles {d : Nat} {x0 : Nat} {x1 : Int32} {h : AH} (hd : 9 ≤ d) : evC d 117 [.ref x0, .int x1] h = retR [] true (ev (d - 1) t_X9_doubles ([.ref x0, .int x1], [], h)) := evC_eq hd P_X9_doubles (Nat.le_of_ble_eq_true rfl)
theorem P_X9_line : PP 118 = some (4, t_X9_line, [], true) := pD_4 18
theorem E_X9_line {d : Nat} {x0 : Nat} {x1 : Int32} {x2 : Int32} {x3 : Int32} {h : AH} (hd : 9 ≤ d) : evC d 118 [.ref x0, .int x1, .int x2, .int x3] h = retR [] true (ev (d - 1) t_X9_line ([.ref x0, .int x1, .int x2, .int x3], [], h)) := evC_eq hd P_X9_line (Nat.le_of_ble_eq_true rfl)
theorem P_X9_leave : PP 119 = some (4, t_X9_leave, [], true) := pD_4 19
theorem E_X9_leave {d : Nat} {x0 : Nat} {x1 : Int32} {h : AH} (hd : 9 ≤ d) : evC d 119 [.ref x0, .int x1] h = retR [] true (ev (d - 1) t_X9_leave ([.ref x0, .int x1, .retAddr 0, .retAddr 0], [], h)) := evC_eq hd P_X9_leave (Nat.le_of_ble_eq_true rfl)
theorem P_X9_knock : PP 120 = some (5, t_X9_knock, [], true) := pD_4 20
theorem E_X9_knock {d : Nat} {x0 : Nat} {x1 : Int32} {x2 : Int32} {x3 : Int32} {h : AH} (hd : 9 ≤ d) : evC d 120 [.ref x0, .int x1, .int x2, .int x3] h = retR [] true (ev (d - 1) t_X9_knock ([.ref x0, .int x1, .int x2, .int x3, .retAddr 0], [], h)) := evC_eq hd P_X9_knock (Nat.le_of_ble_eq_true rfl)
theorem P_X9_often : PP 121 = some (4, t_X9_often, [], true) := pD_4 21
theorem E_X9_often {d : Nat} {x0 : Nat} {x1 : Int32} {x2 : Int32} {x3 : Int32} {h : AH} (hd : 9 ≤ d) : evC d 121 [.ref x0, .int x1, .int x2, .int x3] h = retR [] true (ev (d - 1) t_X9_often ([.ref x0, .int x1, .int x2, .int x3], [], h)) := evC_eq hd P_X9_often (Nat.le_of_ble_eq_true rfl)
theorem P_X9_order : PP 122 = some (2, t_X9_order, [], true) := pD_4 22
theorem E_X9_order {d : Nat} {x0 : Nat} {x1 : Int32} {h : AH} (hd : 9 ≤ d) : evC d 122 [.ref x0, .int x1] h = retR [] true (ev (d - 1) t_X9_order ([.ref x0, .int x1], [], h)) := evC_eq hd P_X9_order (Nat.le_of_ble_eq_true rfl)
theorem P_X9_ordered : PP 123 = some (3, t_X9_ordered, [], true) := pD_4 23
theorem E_X9_ordered {d : Nat} {x0 : Nat} {x1 : Int32} {x2 : Int32} {h : AH} (hd : 9 ≤ d) : evC d 123 [.ref x0, .int x1, .int x2] h = retR [] true (ev (d - 1) t_X9_ordered ([.ref x0, .int x1, .int x2], [], h)) := evC_eq hd P_X9_ordered (Nat.le_of_ble_eq_true rfl)
theorem P_X9_off : PP 124 = some (4, t_X9_off, [], true) := pD_4 24
theorem E_X9_off {d : Nat} {x0 : Nat} {x1 : Int32} {x2 : Int32} {h : AH} (hd : 9 ≤ d) : evC d 124 [.ref x0, .int x1, .int x2] h = retR [] true (ev (d - 1) t_X9_off ([.ref x0, .int x1, .int x2, .retAddr 0], [], h)) := evC_eq hd P_X9_off (Nat.le_of_ble_eq_true rfl)
theorem P_X9_bestOff : PP 125 = some (1, t_X9_bestOff, [], false) := pD_5 0
theorem E_X9_bestOff {d : Nat} {x0 : Nat} {h : AH} (hd : 9 ≤ d) : evC d 125 [.ref x0] h = retR [] false (ev (d - 1) t_X9_bestOff ([.ref x0], [], h)) := evC_eq hd P_X9_bestOff (Nat.le_of_ble_eq_true rfl)
theorem P_X9_eyes : PP 126 = some (5, t_X9_eyes, [], true) := pD_5 1
theorem E_X9_eyes {d : Nat} {x0 : Nat} {x1 : Int32} {x2 : Int32} {x3 : Int32} {x4 : Int32} {h : AH} (hd : 9 ≤ d) : evC d 126 [.ref x0, .int x1, .int x2, .int x3, .int x4] h = retR [] true (ev (d - 1) t_X9_eyes ([.ref x0, .int x1, .int x2, .int x3, .int x4], [], h)) := evC_eq hd P_X9_eyes (Nat.le_of_ble_eq_true rfl)
theorem P_X9_need : PP 127 = some (5, t_X9_need, [], true) := pD_5 2
theorem E_X9_need {d : Nat} {x0 : Nat} {x1 : Int32} {x2 : Int32} {x3 : Int32} {h : AH} (hd : 9 ≤ d) : evC d 127 [.ref x0, .int x1, .int x2, .int x3] h = retR [] true (ev (d - 1) t_X9_need ([.ref x0, .int x1, .int x2, .int x3, .retAddr 0], [], h)) := evC_eq hd P_X9_need (Nat.le_of_ble_eq_true rfl)
theorem P_X9_day : PP 128 = some (4, t_X9_day, [], true) := pD_5 3
theorem E_X9_day {d : Nat} {x0 : Nat} {x1 : Int32} {x2 : Int32} {h : AH} (hd : 9 ≤ d) : evC d 128 [.ref x0, .int x1, .int x2] h = retR [] true (ev (d - 1) t_X9_day ([.ref x0, .int x1, .int x2, .retAddr 0], [], h)) := evC_eq hd P_X9_day (Nat.le_of_ble_eq_true rfl)
theorem P_X9_together : PP 129 = some (4, t_X9_together, [], true) := pD_5 4
theorem E_X9_together {d : Nat} {x0 : Nat} {x1 : Int32} {x2 : Int32} {x3 : Int32} {h : AH} (hd : 9 ≤ d) : evC d 129 [.ref x0, .int x1, .int x2, .int x3] h = retR [] true (ev (d - 1) t_X9_together ([.ref x0, .int x1, .int x2, .int x3], [], h)) := evC_eq hd P_X9_together (Nat.le_of_ble_eq_true rfl)
theorem P_X9_missing : PP 130 = some (3, t_X9_missing, [], false) := pD_5 5
theorem E_X9_missing {d : Nat} {x0 : Nat} {h : AH} (hd : 9 ≤ d) : evC d 130 [.ref x0] h = retR [] false (ev (d - 1) t_X9_missing ([.ref x0, .retAddr 0, .retAddr 0], [], h)) := evC_eq hd P_X9_missing (Nat.le_of_ble_eq_true rfl)
theorem P_X9_strict : PP 131 = some (3, t_X9_strict, [], true) := pD_5 6
theorem E_X9_strict {d : Nat} {x0 : Nat} {x1 : Int32} {h : AH} (hd : 9 ≤ d) : evC d 131 [.ref x0, .int x1] h = retR [] true (ev (d - 1) t_X9_strict ([.ref x0, .int x1, .retAddr 0], [], h)) := evC_eq hd P_X9_strict (Nat.le_of_ble_eq_true rfl)
theorem P_X9_binned : PP 132 = some (2, t_X9_binned, [], true) := pD_5 7
theorem E_X9_binned {d : Nat} {x0 : Nat} {x1 : Int32} {h : AH} (hd : 9 ≤ d) : evC d 132 [.ref x0, .int x1] h = retR [] true (ev (d - 1) t_X9_binned ([.ref x0, .int x1], [], h)) := evC_eq hd P_X9_binned (Nat.le_of_ble_eq_true rfl)
theorem P_X9_scene : PP 133 = some (4, t_X9_scene, [], true) := pD_5 8
theorem E_X9_scene {d : Nat} {x0 : Nat} {x1 : Int32} {x2 : Int32} {h : AH} (hd : 9 ≤ d) : evC d 133 [.ref x0, .int x1, .int x2] h = retR [] true (ev (d - 1) t_X9_scene ([.ref x0, .int x1, .int x2, .retAddr 0], [], h)) := evC_eq hd P_X9_scene (Nat.le_of_ble_eq_true rfl)
theorem P_X9_friend : PP 134 = some (7, t_X9_friend, [], true) := pD_5 9
theorem E_X9_friend {d : Nat} {x0 : Nat} {x1 : Int32} {x2 : Int32} {h : AH} (hd : 9 ≤ d) : evC d 134 [.ref x0, .int x1, .int x2] h = retR [] true (ev (d - 1) t_X9_friend ([.ref x0, .int x1, .int x2, .retAddr 0, .retAddr 0, .retAddr 0, .retAddr 0], [], h)) := evC_eq hd P_X9_friend (Nat.le_of_ble_eq_true rfl)
theorem P_X9_goesOn : PP 135 = some (7, t_X9_goesOn, [], true) := pD_5 10
theorem E_X9_goesOn {d : Nat} {x0 : Nat} {x1 : Int32} {x2 : Int32} {x3 : Int32} {x4 : Int32} {x5 : Int32} {h : AH} (hd : 9 ≤ d) : evC d 135 [.ref x0, .int x1, .int x2, .int x3, .int x4, .int x5] h = retR [] true (ev (d - 1) t_X9_goesOn ([.ref x0, .int x1, .int x2, .int x3, .int x4, .int x5, .retAddr 0], [], h)) := evC_eq hd P_X9_goesOn (Nat.le_of_ble_eq_true rfl)
theorem P_X9_span : PP 136 = some (13, t_X9_span, [], true) := pD_5 11
theorem E_X9_span {d : Nat} {x0 : Nat} {x1 : Int32} {x2 : Int32} {x3 : Int32} {x4 : Int32} {x5 : Int32} {x6 : Int32} {x7 : Int32} {h : AH} (hd : 9 ≤ d) : evC d 136 [.ref x0, .int x1, .int x2, .int x3, .int x4, .int x5, .int x6, .int x7] h = retR [] true (ev (d - 1) t_X9_span ([.ref x0, .int x1, .int x2, .int x3, .int x4, .int x5, .int x6, .int x7, .retAddr 0, .retAddr 0, .retAddr 0, .retAddr 0, .retAddr 0], [], h)) := evC_eq hd P_X9_span (Nat.le_of_ble_eq_true rfl)
theorem P_X9_image : PP 137 = some (1, t_X9_image, [], false) := pD_5 12
theorem E_X9_image {d : Nat} {x0 : Nat} {h : AH} (hd : 9 ≤ d) : evC d 137 [.ref x0] h = retR [] false (ev (d - 1) t_X9_image ([.ref x0], [], h)) := evC_eq hd P_X9_image (Nat.le_of_ble_eq_true rfl)
theorem P_X9_restore : PP 138 = some (1, t_X9_restore, [], false) := pD_5 13
theorem E_X9_restore {d : Nat} {x0 : Nat} {h : AH} (hd : 9 ≤ d) : evC d 138 [.ref x0] h = retR [] false (ev (d - 1) t_X9_restore ([.ref x0], [], h)) := evC_eq hd P_X9_restore (Nat.le_of_ble_eq_true rfl)
theorem P_X9_status : PP 139 = some (2, t_X9_status, [], false) := pD_5 14
theorem E_X9_status {d : Nat} {x0 : Nat} {x1 : Int32} {h : AH} (hd : 9 ≤ d) : evC d 139 [.ref x0, .int x1] h = retR [] false (ev (d - 1) t_X9_status ([.ref x0, .int x1], [], h)) := evC_eq hd P_X9_status (Nat.le_of_ble_eq_true rfl)
theorem P_X9_kept : PP 140 = some (2, t_X9_kept, [], false) := pD_5 15
theorem E_X9_kept {d : Nat} {x0 : Nat} {x1 : Int32} {h : AH} (hd : 9 ≤ d) : evC d 140 [.ref x0, .int x1] h = retR [] false (ev (d - 1) t_X9_kept ([.ref x0, .int x1], [], h)) := evC_eq hd P_X9_kept (Nat.le_of_ble_eq_true rfl)
theorem P_X9_requireArgument : PP 141 = some (2, t_X9_requireArgument, [], true) := pD_5 16
theorem E_X9_requireArgument {d : Nat} {x0 : Nat} {x1 : Int32} {h : AH} (hd : 9 ≤ d) : evC d 141 [.ref x0, .int x1] h = retR [] true (ev (d - 1) t_X9_requireArgument ([.ref x0, .int x1], [], h)) := evC_eq hd P_X9_requireArgument (Nat.le_of_ble_eq_true rfl)
theorem P_X9_requirePicture : PP 142 = some (2, t_X9_requirePicture, [], true) := pD_5 17
theorem E_X9_requirePicture {d : Nat} {x0 : Nat} {x1 : Int32} {h : AH} (hd : 9 ≤ d) : evC d 142 [.ref x0, .int x1] h = retR [] true (ev (d - 1) t_X9_requirePicture ([.ref x0, .int x1], [], h)) := evC_eq hd P_X9_requirePicture (Nat.le_of_ble_eq_true rfl)
theorem P_X9_requirePerson : PP 143 = some (2, t_X9_requirePerson, [], true) := pD_5 18
theorem E_X9_requirePerson {d : Nat} {x0 : Nat} {x1 : Int32} {h : AH} (hd : 9 ≤ d) : evC d 143 [.ref x0, .int x1] h = retR [] true (ev (d - 1) t_X9_requirePerson ([.ref x0, .int x1], [], h)) := evC_eq hd P_X9_requirePerson (Nat.le_of_ble_eq_true rfl)
theorem P_X9_requireSet : PP 144 = some (2, t_X9_requireSet, [], true) := pD_5 19
theorem E_X9_requireSet {d : Nat} {x0 : Nat} {x1 : Int32} {h : AH} (hd : 9 ≤ d) : evC d 144 [.ref x0, .int x1] h = retR [] true (ev (d - 1) t_X9_requireSet ([.ref x0, .int x1], [], h)) := evC_eq hd P_X9_requireSet (Nat.le_of_ble_eq_true rfl)
theorem P_X9_requireRow : PP 145 = some (2, t_X9_requireRow, [], true) := pD_5 20
theorem E_X9_requireRow {d : Nat} {x0 : Nat} {x1 : Int32} {h : AH} (hd : 9 ≤ d) : evC d 145 [.ref x0, .int x1] h = retR [] true (ev (d - 1) t_X9_requireRow ([.ref x0, .int x1], [], h)) := evC_eq hd P_X9_requireRow (Nat.le_of_ble_eq_true rfl)
theorem P_X9_requireChances : PP 146 = some (4, t_X9_requireChances, [], true) := pD_5 21
theorem E_X9_requireChances {d : Nat} {x0 : Nat} {x1 : Int32} {x2 : Int32} {x3 : Int32} {h : AH} (hd : 9 ≤ d) : evC d 146 [.ref x0, .int x1, .int x2, .int x3] h = retR [] true (ev (d - 1) t_X9_requireChances ([.ref x0, .int x1, .int x2, .int x3], [], h)) := evC_eq hd P_X9_requireChances (Nat.le_of_ble_eq_true rfl)
theorem P_X9_within : PP 147 = some (3, t_X9_within, [], false) := pD_5 22
theorem E_X9_within {d : Nat} {x0 : Int32} {x1 : Int32} {x2 : Int32} {h : AH} (hd : 9 ≤ d) : evC d 147 [.int x0, .int x1, .int x2] h = retR [] false (ev (d - 1) t_X9_within ([.int x0, .int x1, .int x2], [], h)) := evC_eq hd P_X9_within (Nat.le_of_ble_eq_true rfl)
theorem P_X9_bitOf : PP 148 = some (2, t_X9_bitOf, [], false) := pD_5 23
theorem E_X9_bitOf {d : Nat} {x0 : Int32} {x1 : Int32} {h : AH} (hd : 9 ≤ d) : evC d 148 [.int x0, .int x1] h = retR [] false (ev (d - 1) t_X9_bitOf ([.int x0, .int x1], [], h)) := evC_eq hd P_X9_bitOf (Nat.le_of_ble_eq_true rfl)
theorem P_X9_isIn : PP 149 = some (2, t_X9_isIn, [], false) := pD_5 24
theorem E_X9_isIn {d : Nat} {x0 : Int32} {x1 : Int32} {h : AH} (hd : 9 ≤ d) : evC d 149 [.int x0, .int x1] h = retR [] false (ev (d - 1) t_X9_isIn ([.int x0, .int x1], [], h)) := evC_eq hd P_X9_isIn (Nat.le_of_ble_eq_true rfl)
theorem P_X9_keptWith : PP 150 = some (2, t_X9_keptWith, [], false) := pD_6 0
theorem E_X9_keptWith {d : Nat} {x0 : Nat} {x1 : Int32} {h : AH} (hd : 9 ≤ d) : evC d 150 [.ref x0, .int x1] h = retR [] false (ev (d - 1) t_X9_keptWith ([.ref x0, .int x1], [], h)) := evC_eq hd P_X9_keptWith (Nat.le_of_ble_eq_true rfl)
theorem P_X9_keptAndSeen : PP 151 = some (3, t_X9_keptAndSeen, [], false) := pD_6 1
theorem E_X9_keptAndSeen {d : Nat} {x0 : Nat} {h : AH} (hd : 9 ≤ d) : evC d 151 [.ref x0] h = retR [] false (ev (d - 1) t_X9_keptAndSeen ([.ref x0, .retAddr 0, .retAddr 0], [], h)) := evC_eq hd P_X9_keptAndSeen (Nat.le_of_ble_eq_true rfl)
theorem P_X9_countThought : PP 152 = some (5, t_X9_countThought, [], false) := pD_6 2
theorem E_X9_countThought {d : Nat} {x0 : Nat} {x1 : Int32} {h : AH} (hd : 9 ≤ d) : evC d 152 [.ref x0, .int x1] h = retR [] false (ev (d - 1) t_X9_countThought ([.ref x0, .int x1, .retAddr 0, .retAddr 0, .retAddr 0], [], h)) := evC_eq hd P_X9_countThought (Nat.le_of_ble_eq_true rfl)
theorem P_X9_dropImages : PP 153 = some (2, t_X9_dropImages, [], false) := pD_6 3
theorem E_X9_dropImages {d : Nat} {x0 : Nat} {h : AH} (hd : 9 ≤ d) : evC d 153 [.ref x0] h = retR [] false (ev (d - 1) t_X9_dropImages ([.ref x0, .retAddr 0], [], h)) := evC_eq hd P_X9_dropImages (Nat.le_of_ble_eq_true rfl)
theorem P_X10_init : PP 154 = some (1, t_X10_init, [], false) := pD_6 4
theorem E_X10_init {d : Nat} {x0 : Nat} {h : AH} (hd : 9 ≤ d) : evC d 154 [.ref x0] h = retR [] false (ev (d - 1) t_X10_init ([.ref x0], [], h)) := evC_eq hd P_X10_init (Nat.le_of_ble_eq_true rfl)
theorem P_X10_tellsNothing : PP 155 = some (2, t_X10_tellsNothing, [], false) := pD_6 5
theorem E_X10_tellsNothing {d : Nat} {x0 : Nat} {h : AH} (hd : 9 ≤ d) : evC d 155 [.ref x0] h = retR [] false (ev (d - 1) t_X10_tellsNothing ([.ref x0, .retAddr 0], [], h)) := evC_eq hd P_X10_tellsNothing (Nat.le_of_ble_eq_true rfl)
theorem P_X10_thrown : PP 156 = some (1, t_X10_thrown, [], false) := pD_6 6
theorem E_X10_thrown {d : Nat} {x0 : Nat} {h : AH} (hd : 9 ≤ d) : evC d 156 [.ref x0] h = retR [] false (ev (d - 1) t_X10_thrown ([.ref x0], [], h)) := evC_eq hd P_X10_thrown (Nat.le_of_ble_eq_true rfl)
theorem P_X10_bad : PP 157 = some (4, t_X10_bad, [], false) := pD_6 7
theorem E_X10_bad {d : Nat} {x0 : Nat} {x1 : Int32} {x2 : Int32} {x3 : Int32} {h : AH} (hd : 9 ≤ d) : evC d 157 [.ref x0, .int x1, .int x2, .int x3] h = retR [] false (ev (d - 1) t_X10_bad ([.ref x0, .int x1, .int x2, .int x3], [], h)) := evC_eq hd P_X10_bad (Nat.le_of_ble_eq_true rfl)
theorem P_X10_in : PP 158 = some (3, t_X10_in, [], false) := pD_6 8
theorem E_X10_in {d : Nat} {x0 : Int32} {x1 : Int32} {x2 : Int32} {h : AH} (hd : 9 ≤ d) : evC d 158 [.int x0, .int x1, .int x2] h = retR [] false (ev (d - 1) t_X10_in ([.int x0, .int x1, .int x2], [], h)) := evC_eq hd P_X10_in (Nat.le_of_ble_eq_true rfl)
theorem P_X10_less : PP 159 = some (2, t_X10_less, [], false) := pD_6 9
theorem E_X10_less {d : Nat} {x0 : Int32} {x1 : Int32} {h : AH} (hd : 9 ≤ d) : evC d 159 [.int x0, .int x1] h = retR [] false (ev (d - 1) t_X10_less ([.int x0, .int x1], [], h)) := evC_eq hd P_X10_less (Nat.le_of_ble_eq_true rfl)
theorem P_X10_more : PP 160 = some (2, t_X10_more, [], false) := pD_6 10
theorem E_X10_more {d : Nat} {x0 : Int32} {x1 : Int32} {h : AH} (hd : 9 ≤ d) : evC d 160 [.int x0, .int x1] h = retR [] false (ev (d - 1) t_X10_more ([.int x0, .int x1], [], h)) := evC_eq hd P_X10_more (Nat.le_of_ble_eq_true rfl)
theorem P_X10_has : PP 161 = some (2, t_X10_has, [], false) := pD_6 11
theorem E_X10_has {d : Nat} {x0 : Int32} {x1 : Int32} {h : AH} (hd : 9 ≤ d) : evC d 161 [.int x0, .int x1] h = retR [] false (ev (d - 1) t_X10_has ([.int x0, .int x1], [], h)) := evC_eq hd P_X10_has (Nat.le_of_ble_eq_true rfl)
theorem P_X10_feed : PP 162 = some (8, t_X10_feed, [], false) := pD_6 12
theorem E_X10_feed {d : Nat} {x0 : Nat} {x1 : Int32} {x2 : Int32} {x3 : Int32} {x4 : Int32} {x5 : Int32} {h : AH} (hd : 9 ≤ d) : evC d 162 [.ref x0, .int x1, .int x2, .int x3, .int x4, .int x5] h = retR [] false (ev (d - 1) t_X10_feed ([.ref x0, .int x1, .int x2, .int x3, .int x4, .int x5, .retAddr 0, .retAddr 0], [], h)) := evC_eq hd P_X10_feed (Nat.le_of_ble_eq_true rfl)
theorem P_X10_byteAt : PP 163 = some (2, t_X10_byteAt, [], false) := pD_6 13
theorem E_X10_byteAt {d : Nat} {x0 : Nat} {x1 : Int32} {h : AH} (hd : 9 ≤ d) : evC d 163 [.ref x0, .int x1] h = retR [] false (ev (d - 1) t_X10_byteAt ([.ref x0, .int x1], [], h)) := evC_eq hd P_X10_byteAt (Nat.le_of_ble_eq_true rfl)
theorem P_X10_blanks : PP 164 = some (1, t_X10_blanks, [], false) := pD_6 14
theorem E_X10_blanks {d : Nat} {x0 : Nat} {h : AH} (hd : 9 ≤ d) : evC d 164 [.ref x0] h = retR [] false (ev (d - 1) t_X10_blanks ([.ref x0], [], h)) := evC_eq hd P_X10_blanks (Nat.le_of_ble_eq_true rfl)
theorem P_X10_wrong : PP 165 = some (3, t_X10_wrong, [], false) := pD_6 15
theorem E_X10_wrong {d : Nat} {x0 : Nat} {x1 : Int32} {x2 : Int32} {h : AH} (hd : 9 ≤ d) : evC d 165 [.ref x0, .int x1, .int x2] h = retR [] false (ev (d - 1) t_X10_wrong ([.ref x0, .int x1, .int x2], [], h)) := evC_eq hd P_X10_wrong (Nat.le_of_ble_eq_true rfl)
theorem P_X10_isDigit : PP 166 = some (1, t_X10_isDigit, [], false) := pD_6 16
theorem E_X10_isDigit {d : Nat} {x0 : Int32} {h : AH} (hd : 9 ≤ d) : evC d 166 [.int x0] h = retR [] false (ev (d - 1) t_X10_isDigit ([.int x0], [], h)) := evC_eq hd P_X10_isDigit (Nat.le_of_ble_eq_true rfl)
theorem P_X10_isSmall : PP 167 = some (1, t_X10_isSmall, [], false) := pD_6 17
theorem E_X10_isSmall {d : Nat} {x0 : Int32} {h : AH} (hd : 9 ≤ d) : evC d 167 [.int x0] h = retR [] false (ev (d - 1) t_X10_isSmall ([.int x0], [], h)) := evC_eq hd P_X10_isSmall (Nat.le_of_ble_eq_true rfl)
theorem P_X10_number : PP 168 = some (5, t_X10_number, [], false) := pD_6 18
theorem E_X10_number {d : Nat} {x0 : Nat} {x1 : Int32} {x2 : Int32} {h : AH} (hd : 9 ≤ d) : evC d 168 [.ref x0, .int x1, .int x2] h = retR [] false (ev (d - 1) t_X10_number ([.ref x0, .int x1, .int x2, .retAddr 0, .retAddr 0], [], h)) := evC_eq hd P_X10_number (Nat.le_of_ble_eq_true rfl)
theorem P_X10_wordHere : PP 169 = some (4, t_X10_wordHere, [], false) := pD_6 19
theorem E_X10_wordHere {d : Nat} {x0 : Nat} {h : AH} (hd : 9 ≤ d) : evC d 169 [.ref x0] h = retR [] false (ev (d - 1) t_X10_wordHere ([.ref x0, .retAddr 0, .retAddr 0, .retAddr 0], [], h)) := evC_eq hd P_X10_wordHere (Nat.le_of_ble_eq_true rfl)
theorem P_X10_seven : PP 170 = some (9, t_X10_seven, [], false) := pD_6 20
theorem E_X10_seven {d : Nat} {x0 : Int32} {x1 : Int32} {x2 : Int32} {x3 : Int32} {x4 : Int32} {x5 : Int32} {x6 : Int32} {h : AH} (hd : 9 ≤ d) : evC d 170 [.int x0, .int x1, .int x2, .int x3, .int x4, .int x5, .int x6] h = retR [] false (ev (d - 1) t_X10_seven ([.int x0, .int x1, .int x2, .int x3, .int x4, .int x5, .int x6, .retAddr 0, .retAddr 0], [], h)) := evC_eq hd P_X10_seven (Nat.le_of_ble_eq_true rfl)
theorem P_X10_isWord : PP 171 = some (8, t_X10_isWord, [], false) := pD_6 21
theorem E_X10_isWord {d : Nat} {x0 : Nat} {x1 : Int32} {x2 : Int32} {x3 : Int32} {x4 : Int32} {x5 : Int32} {x6 : Int32} {x7 : Int32} {h : AH} (hd : 9 ≤ d) : evC d 171 [.ref x0, .int x1, .int x2, .int x3, .int x4, .int x5, .int x6, .int x7] h = retR [] false (ev (d - 1) t_X10_isWord ([.ref x0, .int x1, .int x2, .int x3, .int x4, .int x5, .int x6, .int x7], [], h)) := evC_eq hd P_X10_isWord (Nat.le_of_ble_eq_true rfl)
theorem P_X10_skipWord : PP 172 = some (1, t_X10_skipWord, [], false) := pD_6 22
theorem E_X10_skipWord {d : Nat} {x0 : Nat} {h : AH} (hd : 9 ≤ d) : evC d 172 [.ref x0] h = retR [] false (ev (d - 1) t_X10_skipWord ([.ref x0], [], h)) := evC_eq hd P_X10_skipWord (Nat.le_of_ble_eq_true rfl)
theorem P_X10_takes : PP 173 = some (9, t_X10_takes, [], false) := pD_6 23
theorem E_X10_takes {d : Nat} {x0 : Nat} {x1 : Int32} {x2 : Int32} {x3 : Int32} {x4 : Int32} {x5 : Int32} {x6 : Int32} {x7 : Int32} {h : AH} (hd : 9 ≤ d) : evC d 173 [.ref x0, .int x1, .int x2, .int x3, .int x4, .int x5, .int x6, .int x7] h = retR [] false (ev (d - 1) t_X10_takes ([.ref x0, .int x1, .int x2, .int x3, .int x4, .int x5, .int x6, .int x7, .retAddr 0], [], h)) := evC_eq hd P_X10_takes (Nat.le_of_ble_eq_true rfl)
theorem P_X10_sign : PP 174 = some (2, t_X10_sign, [], false) := pD_6 24
theorem E_X10_sign {d : Nat} {x0 : Nat} {x1 : Int32} {h : AH} (hd : 9 ≤ d) : evC d 174 [.ref x0, .int x1] h = retR [] false (ev (d - 1) t_X10_sign ([.ref x0, .int x1], [], h)) := evC_eq hd P_X10_sign (Nat.le_of_ble_eq_true rfl)
theorem P_X10_takesSign : PP 175 = some (3, t_X10_takesSign, [], false) := pD_7 0
theorem E_X10_takesSign {d : Nat} {x0 : Nat} {x1 : Int32} {h : AH} (hd : 9 ≤ d) : evC d 175 [.ref x0, .int x1] h = retR [] false (ev (d - 1) t_X10_takesSign ([.ref x0, .int x1, .retAddr 0], [], h)) := evC_eq hd P_X10_takesSign (Nat.le_of_ble_eq_true rfl)
theorem P_X10_starts : PP 176 = some (2, t_X10_starts, [], false) := pD_7 1
theorem E_X10_starts {d : Nat} {x0 : Nat} {x1 : Int32} {h : AH} (hd : 9 ≤ d) : evC d 176 [.ref x0, .int x1] h = retR [] false (ev (d - 1) t_X10_starts ([.ref x0, .int x1], [], h)) := evC_eq hd P_X10_starts (Nat.le_of_ble_eq_true rfl)
theorem P_X10_ends : PP 177 = some (1, t_X10_ends, [], false) := pD_7 2
theorem E_X10_ends {d : Nat} {x0 : Nat} {h : AH} (hd : 9 ≤ d) : evC d 177 [.ref x0] h = retR [] false (ev (d - 1) t_X10_ends ([.ref x0], [], h)) := evC_eq hd P_X10_ends (Nat.le_of_ble_eq_true rfl)
theorem P_X10_kindHere : PP 178 = some (1, t_X10_kindHere, [], false) := pD_7 3
theorem E_X10_kindHere {d : Nat} {x0 : Nat} {h : AH} (hd : 9 ≤ d) : evC d 178 [.ref x0] h = retR [] false (ev (d - 1) t_X10_kindHere ([.ref x0], [], h)) := evC_eq hd P_X10_kindHere (Nat.le_of_ble_eq_true rfl)
theorem P_X10_clause : PP 179 = some (4, t_X10_clause, [], false) := pD_7 4
theorem E_X10_clause {d : Nat} {x0 : Nat} {h : AH} (hd : 9 ≤ d) : evC d 179 [.ref x0] h = retR [] false (ev (d - 1) t_X10_clause ([.ref x0, .retAddr 0, .retAddr 0, .retAddr 0], [], h)) := evC_eq hd P_X10_clause (Nat.le_of_ble_eq_true rfl)
theorem P_X10_summer : PP 180 = some (2, t_X10_summer, [], false) := pD_7 5
theorem E_X10_summer {d : Nat} {x0 : Nat} {x1 : Int32} {h : AH} (hd : 9 ≤ d) : evC d 180 [.ref x0, .int x1] h = retR [] false (ev (d - 1) t_X10_summer ([.ref x0, .int x1], [], h)) := evC_eq hd P_X10_summer (Nat.le_of_ble_eq_true rfl)
theorem P_X10_lays : PP 181 = some (5, t_X10_lays, [], false) := pD_7 6
theorem E_X10_lays {d : Nat} {x0 : Nat} {x1 : Nat} {x2 : Int32} {h : AH} (hd : 9 ≤ d) : evC d 181 [.ref x0, .ref x1, .int x2] h = retR [] false (ev (d - 1) t_X10_lays ([.ref x0, .ref x1, .int x2, .retAddr 0, .retAddr 0], [], h)) := evC_eq hd P_X10_lays (Nat.le_of_ble_eq_true rfl)
theorem P_X10_copies : PP 182 = some (3, t_X10_copies, [], false) := pD_7 7
theorem E_X10_copies {d : Nat} {x0 : Nat} {x1 : Nat} {h : AH} (hd : 9 ≤ d) : evC d 182 [.ref x0, .ref x1] h = retR [] false (ev (d - 1) t_X10_copies ([.ref x0, .ref x1, .retAddr 0], [], h)) := evC_eq hd P_X10_copies (Nat.le_of_ble_eq_true rfl)
theorem P_X10_beginsAnew : PP 183 = some (2, t_X10_beginsAnew, [], false) := pD_7 8
theorem E_X10_beginsAnew {d : Nat} {x0 : Nat} {h : AH} (hd : 9 ≤ d) : evC d 183 [.ref x0] h = retR [] false (ev (d - 1) t_X10_beginsAnew ([.ref x0, .retAddr 0], [], h)) := evC_eq hd P_X10_beginsAnew (Nat.le_of_ble_eq_true rfl)
theorem P_X10_notes : PP 184 = some (3, t_X10_notes, [], false) := pD_7 9
theorem E_X10_notes {d : Nat} {x0 : Nat} {x1 : Int32} {x2 : Int32} {h : AH} (hd : 9 ≤ d) : evC d 184 [.ref x0, .int x1, .int x2] h = retR [] false (ev (d - 1) t_X10_notes ([.ref x0, .int x1, .int x2], [], h)) := evC_eq hd P_X10_notes (Nat.le_of_ble_eq_true rfl)
theorem P_X10_opensOne : PP 185 = some (1, t_X10_opensOne, [], false) := pD_7 10
theorem E_X10_opensOne {d : Nat} {x0 : Nat} {h : AH} (hd : 9 ≤ d) : evC d 185 [.ref x0] h = retR [] false (ev (d - 1) t_X10_opensOne ([.ref x0], [], h)) := evC_eq hd P_X10_opensOne (Nat.le_of_ble_eq_true rfl)
theorem P_X10_sum : PP 186 = some (2, t_X10_sum, [], false) := pD_7 11
theorem E_X10_sum {d : Nat} {x0 : Nat} {h : AH} (hd : 9 ≤ d) : evC d 186 [.ref x0] h = retR [] false (ev (d - 1) t_X10_sum ([.ref x0, .retAddr 0], [], h)) := evC_eq hd P_X10_sum (Nat.le_of_ble_eq_true rfl)
theorem P_X10_product : PP 187 = some (2, t_X10_product, [], false) := pD_7 12
theorem E_X10_product {d : Nat} {x0 : Nat} {h : AH} (hd : 9 ≤ d) : evC d 187 [.ref x0] h = retR [] false (ev (d - 1) t_X10_product ([.ref x0, .retAddr 0], [], h)) := evC_eq hd P_X10_product (Nat.le_of_ble_eq_true rfl)
theorem P_X10_knownHere : PP 188 = some (1, t_X10_knownHere, [], false) := pD_7 13
theorem E_X10_knownHere {d : Nat} {x0 : Nat} {h : AH} (hd : 9 ≤ d) : evC d 188 [.ref x0] h = retR [] false (ev (d - 1) t_X10_knownHere ([.ref x0], [], h)) := evC_eq hd P_X10_knownHere (Nat.le_of_ble_eq_true rfl)
theorem P_X10_one : PP 189 = some (3, t_X10_one, [], false) := pD_7 14
theorem E_X10_one {d : Nat} {x0 : Nat} {h : AH} (hd : 9 ≤ d) : evC d 189 [.ref x0] h = retR [] false (ev (d - 1) t_X10_one ([.ref x0, .retAddr 0, .retAddr 0], [], h)) := evC_eq hd P_X10_one (Nat.le_of_ble_eq_true rfl)
theorem P_X10_law : PP 190 = some (2, t_X10_law, [], false) := pD_7 15
theorem E_X10_law {d : Nat} {x0 : Nat} {x1 : Int32} {h : AH} (hd : 9 ≤ d) : evC d 190 [.ref x0, .int x1] h = retR [] false (ev (d - 1) t_X10_law ([.ref x0, .int x1], [], h)) := evC_eq hd P_X10_law (Nat.le_of_ble_eq_true rfl)
theorem P_X10_by : PP 191 = some (3, t_X10_by, [], false) := pD_7 16
theorem E_X10_by {d : Nat} {x0 : Int32} {x1 : Int32} {x2 : Int32} {h : AH} (hd : 9 ≤ d) : evC d 191 [.int x0, .int x1, .int x2] h = retR [] false (ev (d - 1) t_X10_by ([.int x0, .int x1, .int x2], [], h)) := evC_eq hd P_X10_by (Nat.le_of_ble_eq_true rfl)
theorem P_X10_byLaw : PP 192 = some (3, t_X10_byLaw, [], false) := pD_7 17
theorem E_X10_byLaw {d : Nat} {x0 : Nat} {h : AH} (hd : 9 ≤ d) : evC d 192 [.ref x0] h = retR [] false (ev (d - 1) t_X10_byLaw ([.ref x0, .retAddr 0, .retAddr 0], [], h)) := evC_eq hd P_X10_byLaw (Nat.le_of_ble_eq_true rfl)
theorem P_X10_stepHere : PP 193 = some (1, t_X10_stepHere, [], false) := pD_7 18
theorem E_X10_stepHere {d : Nat} {x0 : Nat} {h : AH} (hd : 9 ≤ d) : evC d 193 [.ref x0] h = retR [] false (ev (d - 1) t_X10_stepHere ([.ref x0], [], h)) := evC_eq hd P_X10_stepHere (Nat.le_of_ble_eq_true rfl)
theorem P_X10_readsStep : PP 194 = some (3, t_X10_readsStep, [], false) := pD_7 19
theorem E_X10_readsStep {d : Nat} {x0 : Nat} {h : AH} (hd : 9 ≤ d) : evC d 194 [.ref x0] h = retR [] false (ev (d - 1) t_X10_readsStep ([.ref x0, .retAddr 0, .retAddr 0], [], h)) := evC_eq hd P_X10_readsStep (Nat.le_of_ble_eq_true rfl)
theorem P_X10_clocks : PP 195 = some (6, t_X10_clocks, [], false) := pD_7 20
theorem E_X10_clocks {d : Nat} {x0 : Nat} {x1 : Int32} {h : AH} (hd : 9 ≤ d) : evC d 195 [.ref x0, .int x1] h = retR [] false (ev (d - 1) t_X10_clocks ([.ref x0, .int x1, .retAddr 0, .retAddr 0, .retAddr 0, .retAddr 0], [], h)) := evC_eq hd P_X10_clocks (Nat.le_of_ble_eq_true rfl)
theorem P_X10_fault : PP 196 = some (1, t_X10_fault, [], false) := pD_7 21
theorem E_X10_fault {d : Nat} {x0 : Nat} {h : AH} (hd : 9 ≤ d) : evC d 196 [.ref x0] h = retR [] false (ev (d - 1) t_X10_fault ([.ref x0], [], h)) := evC_eq hd P_X10_fault (Nat.le_of_ble_eq_true rfl)
theorem P_X10_isKept : PP 197 = some (2, t_X10_isKept, [], false) := pD_7 22
theorem E_X10_isKept {d : Nat} {x0 : Nat} {x1 : Int32} {h : AH} (hd : 9 ≤ d) : evC d 197 [.ref x0, .int x1] h = retR [] false (ev (d - 1) t_X10_isKept ([.ref x0, .int x1], [], h)) := evC_eq hd P_X10_isKept (Nat.le_of_ble_eq_true rfl)
theorem P_X10_ones : PP 198 = some (3, t_X10_ones, [], false) := pD_7 23
theorem E_X10_ones {d : Nat} {x0 : Int32} {h : AH} (hd : 9 ≤ d) : evC d 198 [.int x0] h = retR [] false (ev (d - 1) t_X10_ones ([.int x0, .retAddr 0, .retAddr 0], [], h)) := evC_eq hd P_X10_ones (Nat.le_of_ble_eq_true rfl)
theorem P_X10_sameOf : PP 199 = some (5, t_X10_sameOf, [], false) := pD_7 24
theorem E_X10_sameOf {d : Nat} {x0 : Nat} {x1 : Nat} {x2 : Int32} {h : AH} (hd : 9 ≤ d) : evC d 199 [.ref x0, .ref x1, .int x2] h = retR [] false (ev (d - 1) t_X10_sameOf ([.ref x0, .ref x1, .int x2, .retAddr 0, .retAddr 0], [], h)) := evC_eq hd P_X10_sameOf (Nat.le_of_ble_eq_true rfl)
theorem P_X10_thoughtOf : PP 200 = some (3, t_X10_thoughtOf, [], false) := pD_8 0
theorem E_X10_thoughtOf {d : Nat} {x0 : Nat} {x1 : Nat} {x2 : Int32} {h : AH} (hd : 9 ≤ d) : evC d 200 [.ref x0, .ref x1, .int x2] h = retR [] false (ev (d - 1) t_X10_thoughtOf ([.ref x0, .ref x1, .int x2], [], h)) := evC_eq hd P_X10_thoughtOf (Nat.le_of_ble_eq_true rfl)
theorem P_X10_looks : PP 201 = some (3, t_X10_looks, [], false) := pD_8 1
theorem E_X10_looks {d : Nat} {x0 : Nat} {x1 : Nat} {x2 : Int32} {h : AH} (hd : 9 ≤ d) : evC d 201 [.ref x0, .ref x1, .int x2] h = retR [] false (ev (d - 1) t_X10_looks ([.ref x0, .ref x1, .int x2], [], h)) := evC_eq hd P_X10_looks (Nat.le_of_ble_eq_true rfl)
theorem P_X10_throwsAway : PP 202 = some (2, t_X10_throwsAway, [], false) := pD_8 2
theorem E_X10_throwsAway {d : Nat} {x0 : Nat} {x1 : Int32} {h : AH} (hd : 9 ≤ d) : evC d 202 [.ref x0, .int x1] h = retR [] false (ev (d - 1) t_X10_throwsAway ([.ref x0, .int x1], [], h)) := evC_eq hd P_X10_throwsAway (Nat.le_of_ble_eq_true rfl)
theorem P_X10_eveningComes : PP 203 = some (3, t_X10_eveningComes, [], false) := pD_8 3
theorem E_X10_eveningComes {d : Nat} {x0 : Nat} {x1 : Nat} {h : AH} (hd : 9 ≤ d) : evC d 203 [.ref x0, .ref x1] h = retR [] false (ev (d - 1) t_X10_eveningComes ([.ref x0, .ref x1, .retAddr 0], [], h)) := evC_eq hd P_X10_eveningComes (Nat.le_of_ble_eq_true rfl)
theorem P_X10_does : PP 204 = some (5, t_X10_does, [], false) := pD_8 4
theorem E_X10_does {d : Nat} {x0 : Nat} {x1 : Nat} {x2 : Nat} {h : AH} (hd : 9 ≤ d) : evC d 204 [.ref x0, .ref x1, .ref x2] h = retR [] false (ev (d - 1) t_X10_does ([.ref x0, .ref x1, .ref x2, .retAddr 0, .retAddr 0], [], h)) := evC_eq hd P_X10_does (Nat.le_of_ble_eq_true rfl)
theorem P_X10_goes : PP 205 = some (5, t_X10_goes, [], false) := pD_8 5
theorem E_X10_goes {d : Nat} {x0 : Nat} {x1 : Int32} {x2 : Int32} {h : AH} (hd : 9 ≤ d) : evC d 205 [.ref x0, .int x1, .int x2] h = retR [] false (ev (d - 1) t_X10_goes ([.ref x0, .int x1, .int x2, .retAddr 0, .retAddr 0], [], h)) := evC_eq hd P_X10_goes (Nat.le_of_ble_eq_true rfl)
theorem P_X10_work : PP 206 = some (2, t_X10_work, [], false) := pD_8 6
theorem E_X10_work {d : Nat} {x0 : Nat} {x1 : Int32} {h : AH} (hd : 9 ≤ d) : evC d 206 [.ref x0, .int x1] h = retR [] false (ev (d - 1) t_X10_work ([.ref x0, .int x1], [], h)) := evC_eq hd P_X10_work (Nat.le_of_ble_eq_true rfl)
theorem P_X10_undo : PP 207 = some (1, t_X10_undo, [], false) := pD_8 7
theorem E_X10_undo {d : Nat} {x0 : Nat} {h : AH} (hd : 9 ≤ d) : evC d 207 [.ref x0] h = retR [] false (ev (d - 1) t_X10_undo ([.ref x0], [], h)) := evC_eq hd P_X10_undo (Nat.le_of_ble_eq_true rfl)
theorem P_X10_inState : PP 208 = some (5, t_X10_inState, [], false) := pD_8 8
theorem E_X10_inState {d : Nat} {x0 : Nat} {x1 : Nat} {x2 : Int32} {h : AH} (hd : 9 ≤ d) : evC d 208 [.ref x0, .ref x1, .int x2] h = retR [] false (ev (d - 1) t_X10_inState ([.ref x0, .ref x1, .int x2, .retAddr 0, .retAddr 0], [], h)) := evC_eq hd P_X10_inState (Nat.le_of_ble_eq_true rfl)
theorem P_X10_told : PP 209 = some (5, t_X10_told, [], false) := pD_8 9
theorem E_X10_told {d : Nat} {x0 : Nat} {x1 : Int32} {h : AH} (hd : 9 ≤ d) : evC d 209 [.ref x0, .int x1] h = retR [] false (ev (d - 1) t_X10_told ([.ref x0, .int x1, .retAddr 0, .retAddr 0, .retAddr 0], [], h)) := evC_eq hd P_X10_told (Nat.le_of_ble_eq_true rfl)
theorem P_X10_isPicture : PP 210 = some (2, t_X10_isPicture, [], false) := pD_8 10
theorem E_X10_isPicture {d : Nat} {x0 : Nat} {x1 : Int32} {h : AH} (hd : 9 ≤ d) : evC d 210 [.ref x0, .int x1] h = retR [] false (ev (d - 1) t_X10_isPicture ([.ref x0, .int x1], [], h)) := evC_eq hd P_X10_isPicture (Nat.le_of_ble_eq_true rfl)
theorem P_X10_picture : PP 211 = some (3, t_X10_picture, [], false) := pD_8 11
theorem E_X10_picture {d : Nat} {x0 : Nat} {x1 : Int32} {x2 : Int32} {h : AH} (hd : 9 ≤ d) : evC d 211 [.ref x0, .int x1, .int x2] h = retR [] false (ev (d - 1) t_X10_picture ([.ref x0, .int x1, .int x2], [], h)) := evC_eq hd P_X10_picture (Nat.le_of_ble_eq_true rfl)
theorem P_X10_isPerson : PP 212 = some (1, t_X10_isPerson, [], false) := pD_8 12
theorem E_X10_isPerson {d : Nat} {x0 : Int32} {h : AH} (hd : 9 ≤ d) : evC d 212 [.int x0] h = retR [] false (ev (d - 1) t_X10_isPerson ([.int x0], [], h)) := evC_eq hd P_X10_isPerson (Nat.le_of_ble_eq_true rfl)
theorem P_X10_isOn : PP 213 = some (3, t_X10_isOn, [], false) := pD_8 13
theorem E_X10_isOn {d : Nat} {x0 : Nat} {x1 : Int32} {x2 : Int32} {h : AH} (hd : 9 ≤ d) : evC d 213 [.ref x0, .int x1, .int x2] h = retR [] false (ev (d - 1) t_X10_isOn ([.ref x0, .int x1, .int x2], [], h)) := evC_eq hd P_X10_isOn (Nat.le_of_ble_eq_true rfl)
theorem P_X10_person : PP 214 = some (5, t_X10_person, [], false) := pD_8 14
theorem E_X10_person {d : Nat} {x0 : Nat} {x1 : Int32} {x2 : Int32} {h : AH} (hd : 9 ≤ d) : evC d 214 [.ref x0, .int x1, .int x2] h = retR [] false (ev (d - 1) t_X10_person ([.ref x0, .int x1, .int x2, .retAddr 0, .retAddr 0], [], h)) := evC_eq hd P_X10_person (Nat.le_of_ble_eq_true rfl)
theorem P_X10_together : PP 215 = some (8, t_X10_together, [], false) := pD_8 15
theorem E_X10_together {d : Nat} {x0 : Nat} {x1 : Int32} {x2 : Int32} {x3 : Int32} {h : AH} (hd : 9 ≤ d) : evC d 215 [.ref x0, .int x1, .int x2, .int x3] h = retR [] false (ev (d - 1) t_X10_together ([.ref x0, .int x1, .int x2, .int x3, .retAddr 0, .retAddr 0, .retAddr 0, .retAddr 0], [], h)) := evC_eq hd P_X10_together (Nat.le_of_ble_eq_true rfl)
theorem P_X10_friend : PP 216 = some (8, t_X10_friend, [], false) := pD_8 16
theorem E_X10_friend {d : Nat} {x0 : Nat} {x1 : Int32} {x2 : Int32} {h : AH} (hd : 9 ≤ d) : evC d 216 [.ref x0, .int x1, .int x2] h = retR [] false (ev (d - 1) t_X10_friend ([.ref x0, .int x1, .int x2, .retAddr 0, .retAddr 0, .retAddr 0, .retAddr 0, .retAddr 0], [], h)) := evC_eq hd P_X10_friend (Nat.le_of_ble_eq_true rfl)
theorem P_X10_missing : PP 217 = some (5, t_X10_missing, [], false) := pD_8 17
theorem E_X10_missing {d : Nat} {x0 : Nat} {h : AH} (hd : 9 ≤ d) : evC d 217 [.ref x0] h = retR [] false (ev (d - 1) t_X10_missing ([.ref x0, .retAddr 0, .retAddr 0, .retAddr 0, .retAddr 0], [], h)) := evC_eq hd P_X10_missing (Nat.le_of_ble_eq_true rfl)
theorem P_X10_strict : PP 218 = some (3, t_X10_strict, [], false) := pD_8 18
theorem E_X10_strict {d : Nat} {x0 : Nat} {x1 : Int32} {h : AH} (hd : 9 ≤ d) : evC d 218 [.ref x0, .int x1] h = retR [] false (ev (d - 1) t_X10_strict ([.ref x0, .int x1, .retAddr 0], [], h)) := evC_eq hd P_X10_strict (Nat.le_of_ble_eq_true rfl)
theorem P_X10_thoughtAt : PP 219 = some (4, t_X10_thoughtAt, [], false) := pD_8 19
theorem E_X10_thoughtAt {d : Nat} {x0 : Nat} {x1 : Int32} {h : AH} (hd : 9 ≤ d) : evC d 219 [.ref x0, .int x1] h = retR [] false (ev (d - 1) t_X10_thoughtAt ([.ref x0, .int x1, .retAddr 0, .retAddr 0], [], h)) := evC_eq hd P_X10_thoughtAt (Nat.le_of_ble_eq_true rfl)
theorem P_X10_binned : PP 220 = some (2, t_X10_binned, [], false) := pD_8 20
theorem E_X10_binned {d : Nat} {x0 : Nat} {x1 : Int32} {h : AH} (hd : 9 ≤ d) : evC d 220 [.ref x0, .int x1] h = retR [] false (ev (d - 1) t_X10_binned ([.ref x0, .int x1], [], h)) := evC_eq hd P_X10_binned (Nat.le_of_ble_eq_true rfl)
theorem P_X10_thought : PP 221 = some (2, t_X10_thought, [], false) := pD_8 21
theorem E_X10_thought {d : Nat} {x0 : Nat} {x1 : Int32} {h : AH} (hd : 9 ≤ d) : evC d 221 [.ref x0, .int x1] h = retR [] false (ev (d - 1) t_X10_thought ([.ref x0, .int x1], [], h)) := evC_eq hd P_X10_thought (Nat.le_of_ble_eq_true rfl)
theorem P_X10_would : PP 222 = some (9, t_X10_would, [], false) := pD_8 22
theorem E_X10_would {d : Nat} {x0 : Nat} {x1 : Int32} {x2 : Int32} {x3 : Int32} {x4 : Int32} {x5 : Int32} {x6 : Int32} {x7 : Int32} {x8 : Int32} {h : AH} (hd : 9 ≤ d) : evC d 222 [.ref x0, .int x1, .int x2, .int x3, .int x4, .int x5, .int x6, .int x7, .int x8] h = retR [] false (ev (d - 1) t_X10_would ([.ref x0, .int x1, .int x2, .int x3, .int x4, .int x5, .int x6, .int x7, .int x8], [], h)) := evC_eq hd P_X10_would (Nat.le_of_ble_eq_true rfl)
theorem P_X10_favourite : PP 223 = some (3, t_X10_favourite, [], false) := pD_8 23
theorem E_X10_favourite {d : Nat} {x0 : Nat} {h : AH} (hd : 9 ≤ d) : evC d 223 [.ref x0] h = retR [] false (ev (d - 1) t_X10_favourite ([.ref x0, .retAddr 0, .retAddr 0], [], h)) := evC_eq hd P_X10_favourite (Nat.le_of_ble_eq_true rfl)
theorem P_X10_isBookBut : PP 224 = some (7, t_X10_isBookBut, [], false) := pD_8 24
theorem E_X10_isBookBut {d : Nat} {x0 : Nat} {x1 : Int32} {x2 : Int32} {h : AH} (hd : 9 ≤ d) : evC d 224 [.ref x0, .int x1, .int x2] h = retR [] false (ev (d - 1) t_X10_isBookBut ([.ref x0, .int x1, .int x2, .retAddr 0, .retAddr 0, .retAddr 0, .retAddr 0], [], h)) := evC_eq hd P_X10_isBookBut (Nat.le_of_ble_eq_true rfl)
theorem P_X10_valueOf : PP 225 = some (4, t_X10_valueOf, [], false) := pD_9 0
theorem E_X10_valueOf {d : Nat} {x0 : Nat} {x1 : Int32} {h : AH} (hd : 9 ≤ d) : evC d 225 [.ref x0, .int x1] h = retR [] false (ev (d - 1) t_X10_valueOf ([.ref x0, .int x1, .retAddr 0, .retAddr 0], [], h)) := evC_eq hd P_X10_valueOf (Nat.le_of_ble_eq_true rfl)
theorem P_X10_laysBooks : PP 226 = some (3, t_X10_laysBooks, [], false) := pD_9 1
theorem E_X10_laysBooks {d : Nat} {x0 : Nat} {x1 : Int32} {h : AH} (hd : 9 ≤ d) : evC d 226 [.ref x0, .int x1] h = retR [] false (ev (d - 1) t_X10_laysBooks ([.ref x0, .int x1, .retAddr 0], [], h)) := evC_eq hd P_X10_laysBooks (Nat.le_of_ble_eq_true rfl)
theorem P_X10_books : PP 227 = some (2, t_X10_books, [], false) := pD_9 2
theorem E_X10_books {d : Nat} {x0 : Nat} {x1 : Int32} {h : AH} (hd : 9 ≤ d) : evC d 227 [.ref x0, .int x1] h = retR [] false (ev (d - 1) t_X10_books ([.ref x0, .int x1], [], h)) := evC_eq hd P_X10_books (Nat.le_of_ble_eq_true rfl)
theorem P_X10_cost : PP 228 = some (3, t_X10_cost, [], false) := pD_9 3
theorem E_X10_cost {d : Nat} {x0 : Nat} {x1 : Int32} {h : AH} (hd : 9 ≤ d) : evC d 228 [.ref x0, .int x1] h = retR [] false (ev (d - 1) t_X10_cost ([.ref x0, .int x1, .retAddr 0], [], h)) := evC_eq hd P_X10_cost (Nat.le_of_ble_eq_true rfl)
theorem P_X10_isSet : PP 229 = some (2, t_X10_isSet, [], false) := pD_9 4
theorem E_X10_isSet {d : Nat} {x0 : Nat} {x1 : Int32} {h : AH} (hd : 9 ≤ d) : evC d 229 [.ref x0, .int x1] h = retR [] false (ev (d - 1) t_X10_isSet ([.ref x0, .int x1], [], h)) := evC_eq hd P_X10_isSet (Nat.le_of_ble_eq_true rfl)
theorem P_X10_swap : PP 230 = some (10, t_X10_swap, [], false) := pD_9 5
theorem E_X10_swap {d : Nat} {x0 : Nat} {x1 : Int32} {x2 : Int32} {h : AH} (hd : 9 ≤ d) : evC d 230 [.ref x0, .int x1, .int x2] h = retR [] false (ev (d - 1) t_X10_swap ([.ref x0, .int x1, .int x2, .retAddr 0, .retAddr 0, .retAddr 0, .retAddr 0, .retAddr 0, .retAddr 0, .retAddr 0], [], h)) := evC_eq hd P_X10_swap (Nat.le_of_ble_eq_true rfl)
theorem P_X10_isBook : PP 231 = some (2, t_X10_isBook, [], false) := pD_9 6
theorem E_X10_isBook {d : Nat} {x0 : Nat} {x1 : Int32} {h : AH} (hd : 9 ≤ d) : evC d 231 [.ref x0, .int x1] h = retR [] false (ev (d - 1) t_X10_isBook ([.ref x0, .int x1], [], h)) := evC_eq hd P_X10_isBook (Nat.le_of_ble_eq_true rfl)
theorem P_X10_doublesOf : PP 232 = some (4, t_X10_doublesOf, [], false) := pD_9 7
theorem E_X10_doublesOf {d : Nat} {x0 : Nat} {x1 : Int32} {h : AH} (hd : 9 ≤ d) : evC d 232 [.ref x0, .int x1] h = retR [] false (ev (d - 1) t_X10_doublesOf ([.ref x0, .int x1, .retAddr 0, .retAddr 0], [], h)) := evC_eq hd P_X10_doublesOf (Nat.le_of_ble_eq_true rfl)
theorem P_X10_heaps : PP 233 = some (6, t_X10_heaps, [], false) := pD_9 8
theorem E_X10_heaps {d : Nat} {x0 : Nat} {x1 : Int32} {h : AH} (hd : 9 ≤ d) : evC d 233 [.ref x0, .int x1] h = retR [] false (ev (d - 1) t_X10_heaps ([.ref x0, .int x1, .retAddr 0, .retAddr 0, .retAddr 0, .retAddr 0], [], h)) := evC_eq hd P_X10_heaps (Nat.le_of_ble_eq_true rfl)
theorem P_X10_doubles : PP 234 = some (2, t_X10_doubles, [], false) := pD_9 9
theorem E_X10_doubles {d : Nat} {x0 : Nat} {x1 : Int32} {h : AH} (hd : 9 ≤ d) : evC d 234 [.ref x0, .int x1] h = retR [] false (ev (d - 1) t_X10_doubles ([.ref x0, .int x1], [], h)) := evC_eq hd P_X10_doubles (Nat.le_of_ble_eq_true rfl)
theorem P_X10_part : PP 235 = some (11, t_X10_part, [], false) := pD_9 10
theorem E_X10_part {d : Nat} {x0 : Int64} {x1 : Int64} {x2 : Int32} {h : AH} (hd : 9 ≤ d) : evC d 235 [.long x0, .long x1, .int x2] h = retR [] false (ev (d - 1) t_X10_part ([.long x0, .retAddr 0, .long x1, .retAddr 0, .int x2, .retAddr 0, .retAddr 0, .retAddr 0, .retAddr 0, .retAddr 0, .retAddr 0], [], h)) := evC_eq hd P_X10_part (Nat.le_of_ble_eq_true rfl)
theorem P_X10_power : PP 236 = some (6, t_X10_power, [], false) := pD_9 11
theorem E_X10_power {d : Nat} {x0 : Int64} {x1 : Int32} {h : AH} (hd : 9 ≤ d) : evC d 236 [.long x0, .int x1] h = retR [] false (ev (d - 1) t_X10_power ([.long x0, .retAddr 0, .int x1, .retAddr 0, .retAddr 0, .retAddr 0], [], h)) := evC_eq hd P_X10_power (Nat.le_of_ble_eq_true rfl)
theorem P_X10_lineOf : PP 237 = some (5, t_X10_lineOf, [], false) := pD_9 12
theorem E_X10_lineOf {d : Nat} {x0 : Int32} {x1 : Int32} {h : AH} (hd : 9 ≤ d) : evC d 237 [.int x0, .int x1] h = retR [] false (ev (d - 1) t_X10_lineOf ([.int x0, .int x1, .retAddr 0, .retAddr 0, .retAddr 0], [], h)) := evC_eq hd P_X10_lineOf (Nat.le_of_ble_eq_true rfl)
theorem P_X10_oddsBy : PP 238 = some (2, t_X10_oddsBy, [], false) := pD_9 13
theorem E_X10_oddsBy {d : Nat} {x0 : Int32} {x1 : Int32} {h : AH} (hd : 9 ≤ d) : evC d 238 [.int x0, .int x1] h = retR [] false (ev (d - 1) t_X10_oddsBy ([.int x0, .int x1], [], h)) := evC_eq hd P_X10_oddsBy (Nat.le_of_ble_eq_true rfl)
theorem P_X10_line : PP 239 = some (4, t_X10_line, [], false) := pD_9 14
theorem E_X10_line {d : Nat} {x0 : Nat} {x1 : Int32} {x2 : Int32} {x3 : Int32} {h : AH} (hd : 9 ≤ d) : evC d 239 [.ref x0, .int x1, .int x2, .int x3] h = retR [] false (ev (d - 1) t_X10_line ([.ref x0, .int x1, .int x2, .int x3], [], h)) := evC_eq hd P_X10_line (Nat.le_of_ble_eq_true rfl)
theorem P_X10_leave : PP 240 = some (4, t_X10_leave, [], false) := pD_9 15
theorem E_X10_leave {d : Nat} {x0 : Nat} {x1 : Int32} {h : AH} (hd : 9 ≤ d) : evC d 240 [.ref x0, .int x1] h = retR [] false (ev (d - 1) t_X10_leave ([.ref x0, .int x1, .retAddr 0, .retAddr 0], [], h)) := evC_eq hd P_X10_leave (Nat.le_of_ble_eq_true rfl)
theorem P_X10_knock : PP 241 = some (6, t_X10_knock, [], false) := pD_9 16
theorem E_X10_knock {d : Nat} {x0 : Nat} {x1 : Int32} {x2 : Int32} {x3 : Int32} {h : AH} (hd : 9 ≤ d) : evC d 241 [.ref x0, .int x1, .int x2, .int x3] h = retR [] false (ev (d - 1) t_X10_knock ([.ref x0, .int x1, .int x2, .int x3, .retAddr 0, .retAddr 0], [], h)) := evC_eq hd P_X10_knock (Nat.le_of_ble_eq_true rfl)
theorem P_X10_often : PP 242 = some (7, t_X10_often, [], false) := pD_9 17
theorem E_X10_often {d : Nat} {x0 : Nat} {x1 : Int32} {x2 : Int32} {x3 : Int32} {h : AH} (hd : 9 ≤ d) : evC d 242 [.ref x0, .int x1, .int x2, .int x3] h = retR [] false (ev (d - 1) t_X10_often ([.ref x0, .int x1, .int x2, .int x3, .retAddr 0, .retAddr 0, .retAddr 0], [], h)) := evC_eq hd P_X10_often (Nat.le_of_ble_eq_true rfl)
theorem P_X10_shutBy : PP 243 = some (3, t_X10_shutBy, [], false) := pD_9 18
theorem E_X10_shutBy {d : Nat} {x0 : Int32} {x1 : Int32} {x2 : Int32} {h : AH} (hd : 9 ≤ d) : evC d 243 [.int x0, .int x1, .int x2] h = retR [] false (ev (d - 1) t_X10_shutBy ([.int x0, .int x1, .int x2], [], h)) := evC_eq hd P_X10_shutBy (Nat.le_of_ble_eq_true rfl)
theorem P_X10_eyes : PP 244 = some (7, t_X10_eyes, [], false) := pD_9 19
theorem E_X10_eyes {d : Nat} {x0 : Nat} {x1 : Int32} {x2 : Int32} {x3 : Int32} {x4 : Int32} {h : AH} (hd : 9 ≤ d) : evC d 244 [.ref x0, .int x1, .int x2, .int x3, .int x4] h = retR [] false (ev (d - 1) t_X10_eyes ([.ref x0, .int x1, .int x2, .int x3, .int x4, .retAddr 0, .retAddr 0], [], h)) := evC_eq hd P_X10_eyes (Nat.le_of_ble_eq_true rfl)
theorem P_X10_need : PP 245 = some (7, t_X10_need, [], false) := pD_9 20
theorem E_X10_need {d : Nat} {x0 : Nat} {x1 : Int32} {x2 : Int32} {x3 : Int32} {h : AH} (hd : 9 ≤ d) : evC d 245 [.ref x0, .int x1, .int x2, .int x3] h = retR [] false (ev (d - 1) t_X10_need ([.ref x0, .int x1, .int x2, .int x3, .retAddr 0, .retAddr 0, .retAddr 0], [], h)) := evC_eq hd P_X10_need (Nat.le_of_ble_eq_true rfl)
theorem P_X10_lostBy : PP 246 = some (4, t_X10_lostBy, [], false) := pD_9 21
theorem E_X10_lostBy {d : Nat} {x0 : Nat} {x1 : Int32} {h : AH} (hd : 9 ≤ d) : evC d 246 [.ref x0, .int x1] h = retR [] false (ev (d - 1) t_X10_lostBy ([.ref x0, .int x1, .retAddr 0, .retAddr 0], [], h)) := evC_eq hd P_X10_lostBy (Nat.le_of_ble_eq_true rfl)
theorem P_X10_orders : PP 247 = some (5, t_X10_orders, [], false) := pD_9 22
theorem E_X10_orders {d : Nat} {x0 : Nat} {x1 : Int32} {x2 : Int32} {h : AH} (hd : 9 ≤ d) : evC d 247 [.ref x0, .int x1, .int x2] h = retR [] false (ev (d - 1) t_X10_orders ([.ref x0, .int x1, .int x2, .retAddr 0, .retAddr 0], [], h)) := evC_eq hd P_X10_orders (Nat.le_of_ble_eq_true rfl)
theorem P_X10_isNoRow : PP 248 = some (3, t_X10_isNoRow, [], false) := pD_9 23
theorem E_X10_isNoRow {d : Nat} {x0 : Nat} {x1 : Int32} {h : AH} (hd : 9 ≤ d) : evC d 248 [.ref x0, .int x1] h = retR [] false (ev (d - 1) t_X10_isNoRow ([.ref x0, .int x1, .retAddr 0], [], h)) := evC_eq hd P_X10_isNoRow (Nat.le_of_ble_eq_true rfl)
theorem P_X10_order : PP 249 = some (2, t_X10_order, [], false) := pD_9 24
theorem E_X10_order {d : Nat} {x0 : Nat} {x1 : Int32} {h : AH} (hd : 9 ≤ d) : evC d 249 [.ref x0, .int x1] h = retR [] false (ev (d - 1) t_X10_order ([.ref x0, .int x1], [], h)) := evC_eq hd P_X10_order (Nat.le_of_ble_eq_true rfl)
theorem P_X10_ordered : PP 250 = some (3, t_X10_ordered, [], false) := pD_10 0
theorem E_X10_ordered {d : Nat} {x0 : Nat} {x1 : Int32} {x2 : Int32} {h : AH} (hd : 9 ≤ d) : evC d 250 [.ref x0, .int x1, .int x2] h = retR [] false (ev (d - 1) t_X10_ordered ([.ref x0, .int x1, .int x2], [], h)) := evC_eq hd P_X10_ordered (Nat.le_of_ble_eq_true rfl)
theorem P_X10_rightBy : PP 251 = some (4, t_X10_rightBy, [], false) := pD_10 1
theorem E_X10_rightBy {d : Nat} {x0 : Nat} {x1 : Int32} {h : AH} (hd : 9 ≤ d) : evC d 251 [.ref x0, .int x1] h = retR [] false (ev (d - 1) t_X10_rightBy ([.ref x0, .int x1, .retAddr 0, .retAddr 0], [], h)) := evC_eq hd P_X10_rightBy (Nat.le_of_ble_eq_true rfl)
theorem P_X10_off : PP 252 = some (9, t_X10_off, [], false) := pD_10 2
theorem E_X10_off {d : Nat} {x0 : Nat} {x1 : Int32} {x2 : Int32} {h : AH} (hd : 9 ≤ d) : evC d 252 [.ref x0, .int x1, .int x2] h = retR [] false (ev (d - 1) t_X10_off ([.ref x0, .int x1, .int x2, .retAddr 0, .retAddr 0, .retAddr 0, .retAddr 0, .retAddr 0, .retAddr 0], [], h)) := evC_eq hd P_X10_off (Nat.le_of_ble_eq_true rfl)
theorem P_X10_bestOff : PP 253 = some (3, t_X10_bestOff, [], false) := pD_10 3
theorem E_X10_bestOff {d : Nat} {x0 : Nat} {h : AH} (hd : 9 ≤ d) : evC d 253 [.ref x0] h = retR [] false (ev (d - 1) t_X10_bestOff ([.ref x0, .retAddr 0, .retAddr 0], [], h)) := evC_eq hd P_X10_bestOff (Nat.le_of_ble_eq_true rfl)
theorem P_X10_day : PP 254 = some (6, t_X10_day, [], false) := pD_10 4
theorem E_X10_day {d : Nat} {x0 : Nat} {x1 : Int32} {x2 : Int32} {h : AH} (hd : 9 ≤ d) : evC d 254 [.ref x0, .int x1, .int x2] h = retR [] false (ev (d - 1) t_X10_day ([.ref x0, .int x1, .int x2, .retAddr 0, .retAddr 0, .retAddr 0], [], h)) := evC_eq hd P_X10_day (Nat.le_of_ble_eq_true rfl)
theorem P_X10_scene : PP 255 = some (6, t_X10_scene, [], false) := pD_10 5
theorem E_X10_scene {d : Nat} {x0 : Nat} {x1 : Int32} {x2 : Int32} {h : AH} (hd : 9 ≤ d) : evC d 255 [.ref x0, .int x1, .int x2] h = retR [] false (ev (d - 1) t_X10_scene ([.ref x0, .int x1, .int x2, .retAddr 0, .retAddr 0, .retAddr 0], [], h)) := evC_eq hd P_X10_scene (Nat.le_of_ble_eq_true rfl)
theorem P_X10_draw : PP 256 = some (2, t_X10_draw, [], false) := pD_10 6
theorem E_X10_draw {d : Nat} {x0 : Nat} {x1 : Int32} {h : AH} (hd : 9 ≤ d) : evC d 256 [.ref x0, .int x1] h = retR [] false (ev (d - 1) t_X10_draw ([.ref x0, .int x1], [], h)) := evC_eq hd P_X10_draw (Nat.le_of_ble_eq_true rfl)
theorem P_X10_keptOne : PP 257 = some (5, t_X10_keptOne, [], false) := pD_10 7
theorem E_X10_keptOne {d : Nat} {x0 : Nat} {x1 : Nat} {x2 : Int32} {h : AH} (hd : 9 ≤ d) : evC d 257 [.ref x0, .ref x1, .int x2] h = retR [] false (ev (d - 1) t_X10_keptOne ([.ref x0, .ref x1, .int x2, .retAddr 0, .retAddr 0], [], h)) := evC_eq hd P_X10_keptOne (Nat.le_of_ble_eq_true rfl)
theorem P_X10_summerBy : PP 258 = some (7, t_X10_summerBy, [], false) := pD_10 8
theorem E_X10_summerBy {d : Nat} {x0 : Nat} {x1 : Int32} {x2 : Int32} {x3 : Int32} {x4 : Int32} {h : AH} (hd : 9 ≤ d) : evC d 258 [.ref x0, .int x1, .int x2, .int x3, .int x4] h = retR [] false (ev (d - 1) t_X10_summerBy ([.ref x0, .int x1, .int x2, .int x3, .int x4, .retAddr 0, .retAddr 0], [], h)) := evC_eq hd P_X10_summerBy (Nat.le_of_ble_eq_true rfl)
theorem P_X10_isSummer : PP 259 = some (3, t_X10_isSummer, [], false) := pD_10 9
theorem E_X10_isSummer {d : Nat} {x0 : Int32} {x1 : Int32} {x2 : Int32} {h : AH} (hd : 9 ≤ d) : evC d 259 [.int x0, .int x1, .int x2] h = retR [] false (ev (d - 1) t_X10_isSummer ([.int x0, .int x1, .int x2], [], h)) := evC_eq hd P_X10_isSummer (Nat.le_of_ble_eq_true rfl)
theorem P_X10_goesOn : PP 260 = some (8, t_X10_goesOn, [], false) := pD_10 10
theorem E_X10_goesOn {d : Nat} {x0 : Nat} {x1 : Int32} {x2 : Int32} {x3 : Int32} {x4 : Int32} {x5 : Int32} {h : AH} (hd : 9 ≤ d) : evC d 260 [.ref x0, .int x1, .int x2, .int x3, .int x4, .int x5] h = retR [] false (ev (d - 1) t_X10_goesOn ([.ref x0, .int x1, .int x2, .int x3, .int x4, .int x5, .retAddr 0, .retAddr 0], [], h)) := evC_eq hd P_X10_goesOn (Nat.le_of_ble_eq_true rfl)
theorem P_X10_span : PP 261 = some (13, t_X10_span, [], false) := pD_10 11
theorem E_X10_span {d : Nat} {x0 : Nat} {x1 : Int32} {x2 : Int32} {x3 : Int32} {x4 : Int32} {x5 : Int32} {x6 : Int32} {x7 : Int32} {h : AH} (hd : 9 ≤ d) : evC d 261 [.ref x0, .int x1, .int x2, .int x3, .int x4, .int x5, .int x6, .int x7] h = retR [] false (ev (d - 1) t_X10_span ([.ref x0, .int x1, .int x2, .int x3, .int x4, .int x5, .int x6, .int x7, .retAddr 0, .retAddr 0, .retAddr 0, .retAddr 0, .retAddr 0], [], h)) := evC_eq hd P_X10_span (Nat.le_of_ble_eq_true rfl)
theorem P_X10_puts : PP 262 = some (4, t_X10_puts, [], false) := pD_10 12
theorem E_X10_puts {d : Nat} {x0 : Nat} {x1 : Nat} {x2 : Int32} {x3 : Int32} {h : AH} (hd : 9 ≤ d) : evC d 262 [.ref x0, .ref x1, .int x2, .int x3] h = retR [] false (ev (d - 1) t_X10_puts ([.ref x0, .ref x1, .int x2, .int x3], [], h)) := evC_eq hd P_X10_puts (Nat.le_of_ble_eq_true rfl)
theorem P_X10_putsAll : PP 263 = some (5, t_X10_putsAll, [], false) := pD_10 13
theorem E_X10_putsAll {d : Nat} {x0 : Nat} {x1 : Nat} {x2 : Int32} {h : AH} (hd : 9 ≤ d) : evC d 263 [.ref x0, .ref x1, .int x2] h = retR [] false (ev (d - 1) t_X10_putsAll ([.ref x0, .ref x1, .int x2, .retAddr 0, .retAddr 0], [], h)) := evC_eq hd P_X10_putsAll (Nat.le_of_ble_eq_true rfl)
theorem P_X10_image : PP 264 = some (1, t_X10_image, [], false) := pD_10 14
theorem E_X10_image {d : Nat} {x0 : Nat} {h : AH} (hd : 9 ≤ d) : evC d 264 [.ref x0] h = retR [] false (ev (d - 1) t_X10_image ([.ref x0], [], h)) := evC_eq hd P_X10_image (Nat.le_of_ble_eq_true rfl)
theorem P_X10_restore : PP 265 = some (1, t_X10_restore, [], false) := pD_10 15
theorem E_X10_restore {d : Nat} {x0 : Nat} {h : AH} (hd : 9 ≤ d) : evC d 265 [.ref x0] h = retR [] false (ev (d - 1) t_X10_restore ([.ref x0], [], h)) := evC_eq hd P_X10_restore (Nat.le_of_ble_eq_true rfl)
theorem P_X10_status : PP 266 = some (2, t_X10_status, [], false) := pD_10 16
theorem E_X10_status {d : Nat} {x0 : Nat} {x1 : Int32} {h : AH} (hd : 9 ≤ d) : evC d 266 [.ref x0, .int x1] h = retR [] false (ev (d - 1) t_X10_status ([.ref x0, .int x1], [], h)) := evC_eq hd P_X10_status (Nat.le_of_ble_eq_true rfl)
theorem P_X10_kept : PP 267 = some (2, t_X10_kept, [], false) := pD_10 17
theorem E_X10_kept {d : Nat} {x0 : Nat} {x1 : Int32} {h : AH} (hd : 9 ≤ d) : evC d 267 [.ref x0, .int x1] h = retR [] false (ev (d - 1) t_X10_kept ([.ref x0, .int x1], [], h)) := evC_eq hd P_X10_kept (Nat.le_of_ble_eq_true rfl)
theorem P_J6_bitCount_0f7a4 : PP 268 = some (1, t_J6_bitCount_0f7a4, [], false) := pD_10 18
theorem E_J6_bitCount_0f7a4 {d : Nat} {x0 : Int32} {h : AH} (hd : 9 ≤ d) : evC d 268 [.int x0] h = retR [] false (ev (d - 1) t_J6_bitCount_0f7a4 ([.int x0], [], h)) := evC_eq hd P_J6_bitCount_0f7a4 (Nat.le_of_ble_eq_true rfl)
theorem P_L_summer : PP 269 = some (4, t_L_summer, [(1, 1)], false) := pD_10 19
theorem E_L_summer {d : Nat} {x0 : Nat} {x1 : Int32} {x2 : Nat} {h : AH} (hd : 9 ≤ d) : evC d 269 [.ref x0, .int x1, .ref x2] h = retR [(1, 1)] false (ev (d - 1) t_L_summer ([.ref x0, .int x1, .ref x2, .retAddr 0], [], h)) := evC_eq hd P_L_summer (Nat.le_of_ble_eq_true rfl)
theorem P_L_law : PP 270 = some (4, t_L_law, [(1, 1)], false) := pD_10 20
theorem E_L_law {d : Nat} {x0 : Nat} {x1 : Int32} {x2 : Nat} {h : AH} (hd : 9 ≤ d) : evC d 270 [.ref x0, .int x1, .ref x2] h = retR [(1, 1)] false (ev (d - 1) t_L_law ([.ref x0, .int x1, .ref x2, .retAddr 0], [], h)) := evC_eq hd P_L_law (Nat.le_of_ble_eq_true rfl)
theorem P_L_work : PP 271 = some (4, t_L_work, [(1, 1)], false) := pD_10 21
theorem E_L_work {d : Nat} {x0 : Nat} {x1 : Int32} {x2 : Nat} {h : AH} (hd : 9 ≤ d) : evC d 271 [.ref x0, .int x1, .ref x2] h = retR [(1, 1)] false (ev (d - 1) t_L_work ([.ref x0, .int x1, .ref x2, .retAddr 0], [], h)) := evC_eq hd P_L_work (Nat.le_of_ble_eq_true rfl)
theorem P_L_clocks : PP 272 = some (4, t_L_clocks, [(1, 1)], false) := pD_10 22
theorem E_L_clocks {d : Nat} {x0 : Nat} {x1 : Int32} {x2 : Nat} {h : AH} (hd : 9 ≤ d) : evC d 272 [.ref x0, .int x1, .ref x2] h = retR [(1, 1)] false (ev (d - 1) t_L_clocks ([.ref x0, .int x1, .ref x2, .retAddr 0], [], h)) := evC_eq hd P_L_clocks (Nat.le_of_ble_eq_true rfl)
theorem P_L_told : PP 273 = some (4, t_L_told, [(1, 1)], false) := pD_10 23
theorem E_L_told {d : Nat} {x0 : Nat} {x1 : Int32} {x2 : Nat} {h : AH} (hd : 9 ≤ d) : evC d 273 [.ref x0, .int x1, .ref x2] h = retR [(1, 1)] false (ev (d - 1) t_L_told ([.ref x0, .int x1, .ref x2, .retAddr 0], [], h)) := evC_eq hd P_L_told (Nat.le_of_ble_eq_true rfl)
theorem P_L_picture : PP 274 = some (5, t_L_picture, [(0, 1), (1, 2)], false) := pD_10 24
theorem E_L_picture {d : Nat} {x0 : Nat} {x1 : Int32} {x2 : Int32} {x3 : Nat} {h : AH} (hd : 9 ≤ d) : evC d 274 [.ref x0, .int x1, .int x2, .ref x3] h = retR [(0, 1), (1, 2)] false (ev (d - 1) t_L_picture ([.ref x0, .int x1, .int x2, .ref x3, .retAddr 0], [], h)) := evC_eq hd P_L_picture (Nat.le_of_ble_eq_true rfl)
theorem P_L_person : PP 275 = some (5, t_L_person, [(0, 1), (1, 2)], false) := pD_11 0
theorem E_L_person {d : Nat} {x0 : Nat} {x1 : Int32} {x2 : Int32} {x3 : Nat} {h : AH} (hd : 9 ≤ d) : evC d 275 [.ref x0, .int x1, .int x2, .ref x3] h = retR [(0, 1), (1, 2)] false (ev (d - 1) t_L_person ([.ref x0, .int x1, .int x2, .ref x3, .retAddr 0], [], h)) := evC_eq hd P_L_person (Nat.le_of_ble_eq_true rfl)
theorem P_L_thought : PP 276 = some (4, t_L_thought, [(0, 1)], false) := pD_11 1
theorem E_L_thought {d : Nat} {x0 : Nat} {x1 : Int32} {x2 : Nat} {h : AH} (hd : 9 ≤ d) : evC d 276 [.ref x0, .int x1, .ref x2] h = retR [(0, 1)] false (ev (d - 1) t_L_thought ([.ref x0, .int x1, .ref x2, .retAddr 0], [], h)) := evC_eq hd P_L_thought (Nat.le_of_ble_eq_true rfl)
theorem P_L_would : PP 277 = some (11, t_L_would, [(1, 1)], false) := pD_11 2
theorem E_L_would {d : Nat} {x0 : Nat} {x1 : Int32} {x2 : Int32} {x3 : Int32} {x4 : Int32} {x5 : Int32} {x6 : Int32} {x7 : Int32} {x8 : Int32} {x9 : Nat} {h : AH} (hd : 9 ≤ d) : evC d 277 [.ref x0, .int x1, .int x2, .int x3, .int x4, .int x5, .int x6, .int x7, .int x8, .ref x9] h = retR [(1, 1)] false (ev (d - 1) t_L_would ([.ref x0, .int x1, .int x2, .int x3, .int x4, .int x5, .int x6, .int x7, .int x8, .ref x9, .retAddr 0], [], h)) := evC_eq hd P_L_would (Nat.le_of_ble_eq_true rfl)
theorem P_L_books : PP 278 = some (4, t_L_books, [(1, 1)], false) := pD_11 3
theorem E_L_books {d : Nat} {x0 : Nat} {x1 : Int32} {x2 : Nat} {h : AH} (hd : 9 ≤ d) : evC d 278 [.ref x0, .int x1, .ref x2] h = retR [(1, 1)] false (ev (d - 1) t_L_books ([.ref x0, .int x1, .ref x2, .retAddr 0], [], h)) := evC_eq hd P_L_books (Nat.le_of_ble_eq_true rfl)
theorem P_L_cost : PP 279 = some (4, t_L_cost, [(0, 1)], false) := pD_11 4
theorem E_L_cost {d : Nat} {x0 : Nat} {x1 : Int32} {x2 : Nat} {h : AH} (hd : 9 ≤ d) : evC d 279 [.ref x0, .int x1, .ref x2] h = retR [(0, 1)] false (ev (d - 1) t_L_cost ([.ref x0, .int x1, .ref x2, .retAddr 0], [], h)) := evC_eq hd P_L_cost (Nat.le_of_ble_eq_true rfl)
theorem P_L_swap : PP 280 = some (5, t_L_swap, [(1, 1)], false) := pD_11 5
theorem E_L_swap {d : Nat} {x0 : Nat} {x1 : Int32} {x2 : Int32} {x3 : Nat} {h : AH} (hd : 9 ≤ d) : evC d 280 [.ref x0, .int x1, .int x2, .ref x3] h = retR [(1, 1)] false (ev (d - 1) t_L_swap ([.ref x0, .int x1, .int x2, .ref x3, .retAddr 0], [], h)) := evC_eq hd P_L_swap (Nat.le_of_ble_eq_true rfl)
theorem P_L_isBook : PP 281 = some (4, t_L_isBook, [(1, 1)], false) := pD_11 6
theorem E_L_isBook {d : Nat} {x0 : Nat} {x1 : Int32} {x2 : Nat} {h : AH} (hd : 9 ≤ d) : evC d 281 [.ref x0, .int x1, .ref x2] h = retR [(1, 1)] false (ev (d - 1) t_L_isBook ([.ref x0, .int x1, .ref x2, .retAddr 0], [], h)) := evC_eq hd P_L_isBook (Nat.le_of_ble_eq_true rfl)
theorem P_L_heaps : PP 282 = some (4, t_L_heaps, [(1, 1)], false) := pD_11 7
theorem E_L_heaps {d : Nat} {x0 : Nat} {x1 : Int32} {x2 : Nat} {h : AH} (hd : 9 ≤ d) : evC d 282 [.ref x0, .int x1, .ref x2] h = retR [(1, 1)] false (ev (d - 1) t_L_heaps ([.ref x0, .int x1, .ref x2, .retAddr 0], [], h)) := evC_eq hd P_L_heaps (Nat.le_of_ble_eq_true rfl)
theorem P_L_doubles : PP 283 = some (4, t_L_doubles, [(0, 1)], false) := pD_11 8
theorem E_L_doubles {d : Nat} {x0 : Nat} {x1 : Int32} {x2 : Nat} {h : AH} (hd : 9 ≤ d) : evC d 283 [.ref x0, .int x1, .ref x2] h = retR [(0, 1)] false (ev (d - 1) t_L_doubles ([.ref x0, .int x1, .ref x2, .retAddr 0], [], h)) := evC_eq hd P_L_doubles (Nat.le_of_ble_eq_true rfl)
theorem P_L_line : PP 284 = some (6, t_L_line, [(1, 1)], false) := pD_11 9
theorem E_L_line {d : Nat} {x0 : Nat} {x1 : Int32} {x2 : Int32} {x3 : Int32} {x4 : Nat} {h : AH} (hd : 9 ≤ d) : evC d 284 [.ref x0, .int x1, .int x2, .int x3, .ref x4] h = retR [(1, 1)] false (ev (d - 1) t_L_line ([.ref x0, .int x1, .int x2, .int x3, .ref x4, .retAddr 0], [], h)) := evC_eq hd P_L_line (Nat.le_of_ble_eq_true rfl)
theorem P_L_leave : PP 285 = some (4, t_L_leave, [(1, 1)], false) := pD_11 10
theorem E_L_leave {d : Nat} {x0 : Nat} {x1 : Int32} {x2 : Nat} {h : AH} (hd : 9 ≤ d) : evC d 285 [.ref x0, .int x1, .ref x2] h = retR [(1, 1)] false (ev (d - 1) t_L_leave ([.ref x0, .int x1, .ref x2, .retAddr 0], [], h)) := evC_eq hd P_L_leave (Nat.le_of_ble_eq_true rfl)
theorem P_L_knock : PP 286 = some (6, t_L_knock, [(1, 1)], false) := pD_11 11
theorem E_L_knock {d : Nat} {x0 : Nat} {x1 : Int32} {x2 : Int32} {x3 : Int32} {x4 : Nat} {h : AH} (hd : 9 ≤ d) : evC d 286 [.ref x0, .int x1, .int x2, .int x3, .ref x4] h = retR [(1, 1)] false (ev (d - 1) t_L_knock ([.ref x0, .int x1, .int x2, .int x3, .ref x4, .retAddr 0], [], h)) := evC_eq hd P_L_knock (Nat.le_of_ble_eq_true rfl)
theorem P_L_often : PP 287 = some (6, t_L_often, [(1, 1)], false) := pD_11 12
theorem E_L_often {d : Nat} {x0 : Nat} {x1 : Int32} {x2 : Int32} {x3 : Int32} {x4 : Nat} {h : AH} (hd : 9 ≤ d) : evC d 287 [.ref x0, .int x1, .int x2, .int x3, .ref x4] h = retR [(1, 1)] false (ev (d - 1) t_L_often ([.ref x0, .int x1, .int x2, .int x3, .ref x4, .retAddr 0], [], h)) := evC_eq hd P_L_often (Nat.le_of_ble_eq_true rfl)
theorem P_L_order : PP 288 = some (4, t_L_order, [(1, 1)], false) := pD_11 13
theorem E_L_order {d : Nat} {x0 : Nat} {x1 : Int32} {x2 : Nat} {h : AH} (hd : 9 ≤ d) : evC d 288 [.ref x0, .int x1, .ref x2] h = retR [(1, 1)] false (ev (d - 1) t_L_order ([.ref x0, .int x1, .ref x2, .retAddr 0], [], h)) := evC_eq hd P_L_order (Nat.le_of_ble_eq_true rfl)
theorem P_L_ordered : PP 289 = some (5, t_L_ordered, [(1, 1)], false) := pD_11 14
theorem E_L_ordered {d : Nat} {x0 : Nat} {x1 : Int32} {x2 : Int32} {x3 : Nat} {h : AH} (hd : 9 ≤ d) : evC d 289 [.ref x0, .int x1, .int x2, .ref x3] h = retR [(1, 1)] false (ev (d - 1) t_L_ordered ([.ref x0, .int x1, .int x2, .ref x3, .retAddr 0], [], h)) := evC_eq hd P_L_ordered (Nat.le_of_ble_eq_true rfl)
theorem P_L_off : PP 290 = some (5, t_L_off, [(1, 1)], false) := pD_11 15
theorem E_L_off {d : Nat} {x0 : Nat} {x1 : Int32} {x2 : Int32} {x3 : Nat} {h : AH} (hd : 9 ≤ d) : evC d 290 [.ref x0, .int x1, .int x2, .ref x3] h = retR [(1, 1)] false (ev (d - 1) t_L_off ([.ref x0, .int x1, .int x2, .ref x3, .retAddr 0], [], h)) := evC_eq hd P_L_off (Nat.le_of_ble_eq_true rfl)
theorem P_L_eyes : PP 291 = some (7, t_L_eyes, [(1, 1)], false) := pD_11 16
theorem E_L_eyes {d : Nat} {x0 : Nat} {x1 : Int32} {x2 : Int32} {x3 : Int32} {x4 : Int32} {x5 : Nat} {h : AH} (hd : 9 ≤ d) : evC d 291 [.ref x0, .int x1, .int x2, .int x3, .int x4, .ref x5] h = retR [(1, 1)] false (ev (d - 1) t_L_eyes ([.ref x0, .int x1, .int x2, .int x3, .int x4, .ref x5, .retAddr 0], [], h)) := evC_eq hd P_L_eyes (Nat.le_of_ble_eq_true rfl)
theorem P_L_need : PP 292 = some (6, t_L_need, [(1, 1)], false) := pD_11 17
theorem E_L_need {d : Nat} {x0 : Nat} {x1 : Int32} {x2 : Int32} {x3 : Int32} {x4 : Nat} {h : AH} (hd : 9 ≤ d) : evC d 292 [.ref x0, .int x1, .int x2, .int x3, .ref x4] h = retR [(1, 1)] false (ev (d - 1) t_L_need ([.ref x0, .int x1, .int x2, .int x3, .ref x4, .retAddr 0], [], h)) := evC_eq hd P_L_need (Nat.le_of_ble_eq_true rfl)
theorem P_L_day : PP 293 = some (5, t_L_day, [(1, 1)], false) := pD_11 18
theorem E_L_day {d : Nat} {x0 : Nat} {x1 : Int32} {x2 : Int32} {x3 : Nat} {h : AH} (hd : 9 ≤ d) : evC d 293 [.ref x0, .int x1, .int x2, .ref x3] h = retR [(1, 1)] false (ev (d - 1) t_L_day ([.ref x0, .int x1, .int x2, .ref x3, .retAddr 0], [], h)) := evC_eq hd P_L_day (Nat.le_of_ble_eq_true rfl)
theorem P_L_together : PP 294 = some (6, t_L_together, [(0, 1), (1, 2)], false) := pD_11 19
theorem E_L_together {d : Nat} {x0 : Nat} {x1 : Int32} {x2 : Int32} {x3 : Int32} {x4 : Nat} {h : AH} (hd : 9 ≤ d) : evC d 294 [.ref x0, .int x1, .int x2, .int x3, .ref x4] h = retR [(0, 1), (1, 2)] false (ev (d - 1) t_L_together ([.ref x0, .int x1, .int x2, .int x3, .ref x4, .retAddr 0], [], h)) := evC_eq hd P_L_together (Nat.le_of_ble_eq_true rfl)
theorem P_L_strict : PP 295 = some (4, t_L_strict, [(1, 1)], false) := pD_11 20
theorem E_L_strict {d : Nat} {x0 : Nat} {x1 : Int32} {x2 : Nat} {h : AH} (hd : 9 ≤ d) : evC d 295 [.ref x0, .int x1, .ref x2] h = retR [(1, 1)] false (ev (d - 1) t_L_strict ([.ref x0, .int x1, .ref x2, .retAddr 0], [], h)) := evC_eq hd P_L_strict (Nat.le_of_ble_eq_true rfl)
theorem P_L_binned : PP 296 = some (4, t_L_binned, [(0, 1)], false) := pD_11 21
theorem E_L_binned {d : Nat} {x0 : Nat} {x1 : Int32} {x2 : Nat} {h : AH} (hd : 9 ≤ d) : evC d 296 [.ref x0, .int x1, .ref x2] h = retR [(0, 1)] false (ev (d - 1) t_L_binned ([.ref x0, .int x1, .ref x2, .retAddr 0], [], h)) := evC_eq hd P_L_binned (Nat.le_of_ble_eq_true rfl)
theorem P_L_scene : PP 297 = some (5, t_L_scene, [(1, 1)], false) := pD_11 22
theorem E_L_scene {d : Nat} {x0 : Nat} {x1 : Int32} {x2 : Int32} {x3 : Nat} {h : AH} (hd : 9 ≤ d) : evC d 297 [.ref x0, .int x1, .int x2, .ref x3] h = retR [(1, 1)] false (ev (d - 1) t_L_scene ([.ref x0, .int x1, .int x2, .ref x3, .retAddr 0], [], h)) := evC_eq hd P_L_scene (Nat.le_of_ble_eq_true rfl)
theorem P_L_friend : PP 298 = some (5, t_L_friend, [(0, 1), (1, 2)], false) := pD_11 23
theorem E_L_friend {d : Nat} {x0 : Nat} {x1 : Int32} {x2 : Int32} {x3 : Nat} {h : AH} (hd : 9 ≤ d) : evC d 298 [.ref x0, .int x1, .int x2, .ref x3] h = retR [(0, 1), (1, 2)] false (ev (d - 1) t_L_friend ([.ref x0, .int x1, .int x2, .ref x3, .retAddr 0], [], h)) := evC_eq hd P_L_friend (Nat.le_of_ble_eq_true rfl)
theorem P_L_goesOn : PP 299 = some (8, t_L_goesOn, [(1, 1)], false) := pD_11 24
theorem E_L_goesOn {d : Nat} {x0 : Nat} {x1 : Int32} {x2 : Int32} {x3 : Int32} {x4 : Int32} {x5 : Int32} {x6 : Nat} {h : AH} (hd : 9 ≤ d) : evC d 299 [.ref x0, .int x1, .int x2, .int x3, .int x4, .int x5, .ref x6] h = retR [(1, 1)] false (ev (d - 1) t_L_goesOn ([.ref x0, .int x1, .int x2, .int x3, .int x4, .int x5, .ref x6, .retAddr 0], [], h)) := evC_eq hd P_L_goesOn (Nat.le_of_ble_eq_true rfl)
theorem P_L_span : PP 300 = some (10, t_L_span, [(1, 1)], false) := pD_12 0
theorem E_L_span {d : Nat} {x0 : Nat} {x1 : Int32} {x2 : Int32} {x3 : Int32} {x4 : Int32} {x5 : Int32} {x6 : Int32} {x7 : Int32} {x8 : Nat} {h : AH} (hd : 9 ≤ d) : evC d 300 [.ref x0, .int x1, .int x2, .int x3, .int x4, .int x5, .int x6, .int x7, .ref x8] h = retR [(1, 1)] false (ev (d - 1) t_L_span ([.ref x0, .int x1, .int x2, .int x3, .int x4, .int x5, .int x6, .int x7, .ref x8, .retAddr 0], [], h)) := evC_eq hd P_L_span (Nat.le_of_ble_eq_true rfl)
