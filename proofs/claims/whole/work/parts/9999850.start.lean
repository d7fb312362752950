/-! the claim's words (kit/laws/SKELETON.whole) -/
def R_law : String := "SummerPicturesLaw"
def lw_P (b : Addr) (xs : List Int32) (args : Array Value) (s : State) : Prop := args = #[.ref b] ∧ s.IntsAt b xs ∧ xs.length ≤ 4608 ∧ (Jvm.Cond.and given_1 narrow_1).before args s = true
def lw_Q (_ : Array Value) (s : State) (o : Outcome) (t : State) : Prop := o = .returned (some (.int 1)) ∧ Framed s o t [] 601024 7293034
def lw_Z (below : List Frame) (a : Array Value) (s : State) : State → Prop := fun t => ∃ o, t.status = .running ∧ Ended t below o ∧ lw_Q a s o t
/-- the law's own end, with 1 on the stack, nothing written that was there before, its room as the claim has it -/
theorem lw_ret {p : Program} {l : Launch} {e : Env} {s : State} {m : MethodId} {below : List Frame} {meth : Method} {c : Code} {b : Nat} (hx : p.tables.exec = Jvm.exec) (hb : c.code = code) (hr : meth.sig.returnType = ret) (hlocks : meth.locks = false) {pc : Nat} {H : Heap} {ls : Array Slot} (hdg : decode code pc = .ok (.ireturn, 1)) : W p l e room_1 s m #[Value.ref b] below meth c H [] 601024 7293034 (lw_Z below #[Value.ref b] s) (F0 m pc ls [.int 1]) := by
  intro T hT X
  obtain ⟨fs, hret, hrun, hended, hW, hframe⟩ := X.leave (v := some (.int 1)) (hlocks := hlocks) (fun h => by rw [hr] at h; cases h)
  have hmeth' : T.vm.method? m = some meth := X.method'
  refine ⟨T.setFrames fs, ?_, .returned (some (.int 1)), hrun, hended, rfl, ⟨_, rfl⟩, hW, hframe⟩
  jvm_step X.here [X.here.top, hx, hb, hdg, hmeth', hr, ret, narrow_b1]
  (try refine ⟨rfl, ?_⟩); (try refine ⟨rfl, ?_⟩)
  first | (intro acts; rw [hret _ acts rfl rfl rfl]) | rw [hret _ _ rfl rfl rfl]
  exact Steps.refl _
/-- what holds at the law's entry: the machine, the code, the tables' words (any of lw_tbl by 'hts w (by decide +kernel)'), the script of L ints xs at the cell b, what the Statement gives of the start (any of its parts by flat_of_before) -/
def lw_At (p : Program) (s : State) (m : MethodId) (meth : Method) (c : Code) (b L : Nat) (xs : Nat → Int32) : Prop :=
  p.tables.exec = Jvm.exec ∧ c.code = code ∧ meth.sig.returnType = ret ∧ c.maxLocals = 8 ∧ s.vm.findClass R_law = some m.cls ∧ (∀ w ∈ lw_tbl, w.before #[Value.ref b] s = true) ∧ va_X b L xs s s.heap ∧ b < s.heap.size ∧ meth.locks = false ∧ (Jvm.Cond.and given_1 narrow_1).before #[Value.ref b] s = true
/-! ===== the start ===== -/
abbrev sFl : List Cond := flatC (Jvm.Cond.and given_1 narrow_1)
/-- where text j is read: the first place -/
def sTm (j : Nat) : Term := match sAt.find? (fun q => q.2.2 == j) with
  | some q => .string (cn q.1) q.2.1
  | none => .int 0
theorem sw_ex : (List.range 24).all (fun i => decide (Cond.exactly (sTm i) "java/lang/String" ∈ sFl)) = true := by decide +kernel
theorem sw_co : (List.range 24).all (fun i => decide (Cond.eq (.field (sTm i) "java/lang/String" "coder" "B") (.int 0) ∈ sFl)) = true := by decide +kernel
theorem sw_ar : (List.range 24).all (fun i => decide (Cond.arrayOf (.field (sTm i) "java/lang/String" "value" "[B") .byte ∈ sFl)) = true := by decide +kernel
theorem sw_le : (List.range 24).all (fun i => decide (Cond.eq (.length (.field (sTm i) "java/lang/String" "value" "[B")) (.int (Int32.ofNat (sLen.getD i 0))) ∈ sFl)) = true := by decide +kernel
/-- where the Statement says the bytes of text i, and that texts i and j are two -/
def elI : List (List Nat) := [[57, 58, 59, 60, 61, 62, 63], [69, 70, 71, 72], [79, 80, 81, 82], [90, 91, 92, 93], [102, 103, 104], [114, 115, 116, 117, 118], [129, 130, 131, 132, 133], [145, 146, 147, 148, 149, 150], [163, 164, 165], [179, 180, 181, 182, 183], [198, 199, 200, 201, 202], [218, 219, 220, 221], [238, 239, 240, 241], [259, 260, 261, 262, 263], [282, 283, 284, 285], [305, 306, 307, 308], [354, 355, 356, 357, 358], [381, 382, 383, 384], [408, 409, 410, 411], [436, 437, 438, 439, 440, 441, 442], [468, 469, 470, 471, 472], [37, 38, 39, 40, 41, 42, 43, 44, 45, 46, 47, 48, 49, 50, 51, 52], [499, 500, 501, 502, 503, 504, 505, 506, 507, 508, 509, 510, 511, 512, 513], [541, 542, 543, 544, 545, 546, 547, 548, 549, 550, 551, 552, 553, 554]]
def neI : List (List (Nat × Nat)) := [[(0, 0), (74, 0), (84, 0), (95, 0), (106, 0), (120, 0), (135, 0), (152, 0), (167, 0), (185, 0), (204, 0), (223, 0), (243, 0), (265, 0), (287, 0), (310, 0), (360, 0), (386, 0), (413, 0), (444, 0), (474, 0), (64, 1), (515, 0), (556, 0)], [(74, 1), (0, 0), (85, 0), (96, 0), (107, 0), (121, 0), (136, 0), (153, 0), (168, 0), (186, 0), (205, 0), (224, 0), (244, 0), (266, 0), (288, 0), (311, 0), (361, 0), (387, 0), (414, 0), (445, 0), (475, 0), (73, 1), (516, 0), (557, 0)], [(84, 1), (85, 1), (0, 0), (97, 0), (108, 0), (122, 0), (137, 0), (154, 0), (169, 0), (187, 0), (206, 0), (225, 0), (245, 0), (267, 0), (289, 0), (312, 0), (362, 0), (388, 0), (415, 0), (446, 0), (476, 0), (83, 1), (517, 0), (558, 0)], [(95, 1), (96, 1), (97, 1), (0, 0), (109, 0), (123, 0), (138, 0), (155, 0), (170, 0), (188, 0), (207, 0), (226, 0), (246, 0), (268, 0), (290, 0), (313, 0), (363, 0), (389, 0), (416, 0), (447, 0), (477, 0), (94, 1), (518, 0), (559, 0)], [(106, 1), (107, 1), (108, 1), (109, 1), (0, 0), (124, 0), (139, 0), (156, 0), (171, 0), (189, 0), (208, 0), (227, 0), (247, 0), (269, 0), (291, 0), (314, 0), (364, 0), (390, 0), (417, 0), (448, 0), (478, 0), (105, 1), (519, 0), (560, 0)], [(120, 1), (121, 1), (122, 1), (123, 1), (124, 1), (0, 0), (140, 0), (157, 0), (172, 0), (190, 0), (209, 0), (228, 0), (248, 0), (270, 0), (292, 0), (315, 0), (365, 0), (391, 0), (418, 0), (449, 0), (479, 0), (119, 1), (520, 0), (561, 0)], [(135, 1), (136, 1), (137, 1), (138, 1), (139, 1), (140, 1), (0, 0), (158, 0), (173, 0), (191, 0), (210, 0), (229, 0), (249, 0), (271, 0), (293, 0), (316, 0), (366, 0), (392, 0), (419, 0), (450, 0), (480, 0), (134, 1), (521, 0), (562, 0)], [(152, 1), (153, 1), (154, 1), (155, 1), (156, 1), (157, 1), (158, 1), (0, 0), (174, 0), (192, 0), (211, 0), (230, 0), (250, 0), (272, 0), (294, 0), (317, 0), (367, 0), (393, 0), (420, 0), (451, 0), (481, 0), (151, 1), (522, 0), (563, 0)], [(167, 1), (168, 1), (169, 1), (170, 1), (171, 1), (172, 1), (173, 1), (174, 1), (0, 0), (193, 0), (212, 0), (231, 0), (251, 0), (273, 0), (295, 0), (318, 0), (368, 0), (394, 0), (421, 0), (452, 0), (482, 0), (166, 1), (523, 0), (564, 0)], [(185, 1), (186, 1), (187, 1), (188, 1), (189, 1), (190, 1), (191, 1), (192, 1), (193, 1), (0, 0), (213, 0), (232, 0), (252, 0), (274, 0), (296, 0), (319, 0), (369, 0), (395, 0), (422, 0), (453, 0), (483, 0), (184, 1), (524, 0), (565, 0)], [(204, 1), (205, 1), (206, 1), (207, 1), (208, 1), (209, 1), (210, 1), (211, 1), (212, 1), (213, 1), (0, 0), (233, 0), (253, 0), (275, 0), (297, 0), (320, 0), (370, 0), (396, 0), (423, 0), (454, 0), (484, 0), (203, 1), (525, 0), (566, 0)], [(223, 1), (224, 1), (225, 1), (226, 1), (227, 1), (228, 1), (229, 1), (230, 1), (231, 1), (232, 1), (233, 1), (0, 0), (254, 0), (276, 0), (298, 0), (321, 0), (371, 0), (397, 0), (424, 0), (455, 0), (485, 0), (222, 1), (526, 0), (567, 0)], [(243, 1), (244, 1), (245, 1), (246, 1), (247, 1), (248, 1), (249, 1), (250, 1), (251, 1), (252, 1), (253, 1), (254, 1), (0, 0), (277, 0), (299, 0), (322, 0), (372, 0), (398, 0), (425, 0), (456, 0), (486, 0), (242, 1), (527, 0), (568, 0)], [(265, 1), (266, 1), (267, 1), (268, 1), (269, 1), (270, 1), (271, 1), (272, 1), (273, 1), (274, 1), (275, 1), (276, 1), (277, 1), (0, 0), (300, 0), (323, 0), (373, 0), (399, 0), (426, 0), (457, 0), (487, 0), (264, 1), (528, 0), (569, 0)], [(287, 1), (288, 1), (289, 1), (290, 1), (291, 1), (292, 1), (293, 1), (294, 1), (295, 1), (296, 1), (297, 1), (298, 1), (299, 1), (300, 1), (0, 0), (324, 0), (374, 0), (400, 0), (427, 0), (458, 0), (488, 0), (286, 1), (529, 0), (570, 0)], [(310, 1), (311, 1), (312, 1), (313, 1), (314, 1), (315, 1), (316, 1), (317, 1), (318, 1), (319, 1), (320, 1), (321, 1), (322, 1), (323, 1), (324, 1), (0, 0), (375, 0), (401, 0), (428, 0), (459, 0), (489, 0), (309, 1), (530, 0), (571, 0)], [(360, 1), (361, 1), (362, 1), (363, 1), (364, 1), (365, 1), (366, 1), (367, 1), (368, 1), (369, 1), (370, 1), (371, 1), (372, 1), (373, 1), (374, 1), (375, 1), (0, 0), (403, 0), (430, 0), (461, 0), (491, 0), (359, 1), (532, 0), (573, 0)], [(386, 1), (387, 1), (388, 1), (389, 1), (390, 1), (391, 1), (392, 1), (393, 1), (394, 1), (395, 1), (396, 1), (397, 1), (398, 1), (399, 1), (400, 1), (401, 1), (403, 1), (0, 0), (431, 0), (462, 0), (492, 0), (385, 1), (533, 0), (574, 0)], [(413, 1), (414, 1), (415, 1), (416, 1), (417, 1), (418, 1), (419, 1), (420, 1), (421, 1), (422, 1), (423, 1), (424, 1), (425, 1), (426, 1), (427, 1), (428, 1), (430, 1), (431, 1), (0, 0), (463, 0), (493, 0), (412, 1), (534, 0), (575, 0)], [(444, 1), (445, 1), (446, 1), (447, 1), (448, 1), (449, 1), (450, 1), (451, 1), (452, 1), (453, 1), (454, 1), (455, 1), (456, 1), (457, 1), (458, 1), (459, 1), (461, 1), (462, 1), (463, 1), (0, 0), (494, 0), (443, 1), (535, 0), (576, 0)], [(474, 1), (475, 1), (476, 1), (477, 1), (478, 1), (479, 1), (480, 1), (481, 1), (482, 1), (483, 1), (484, 1), (485, 1), (486, 1), (487, 1), (488, 1), (489, 1), (491, 1), (492, 1), (493, 1), (494, 1), (0, 0), (473, 1), (536, 0), (577, 0)], [(64, 0), (73, 0), (83, 0), (94, 0), (105, 0), (119, 0), (134, 0), (151, 0), (166, 0), (184, 0), (203, 0), (222, 0), (242, 0), (264, 0), (286, 0), (309, 0), (359, 0), (385, 0), (412, 0), (443, 0), (473, 0), (0, 0), (514, 0), (555, 0)], [(515, 1), (516, 1), (517, 1), (518, 1), (519, 1), (520, 1), (521, 1), (522, 1), (523, 1), (524, 1), (525, 1), (526, 1), (527, 1), (528, 1), (529, 1), (530, 1), (532, 1), (533, 1), (534, 1), (535, 1), (536, 1), (514, 1), (0, 0), (578, 0)], [(556, 1), (557, 1), (558, 1), (559, 1), (560, 1), (561, 1), (562, 1), (563, 1), (564, 1), (565, 1), (566, 1), (567, 1), (568, 1), (569, 1), (570, 1), (571, 1), (573, 1), (574, 1), (575, 1), (576, 1), (577, 1), (555, 1), (578, 1), (0, 0)]]
def elB (i j : Nat) : Bool := decide (sFl[(elI.getD i []).getD j 0]? = some (Cond.eq (.elem (.field (sTm i) "java/lang/String" "value" "[B") (.int (Int32.ofNat j))) (.int ((sBy.getD i []).getD j 0))))
def neB (i j : Nat) : Bool := decide (i = j) || (match (neI.getD i []).getD j (0, 0) with
  | (k, 0) => decide (sFl[k]? = some (Cond.not (Cond.eq (sTm i) (sTm j))))
  | (k, _) => decide (sFl[k]? = some (Cond.not (Cond.eq (sTm j) (sTm i)))))
theorem sw_el0 : (List.range (sLen.getD 0 0)).all (elB 0) = true := by decide +kernel
theorem sw_el1 : (List.range (sLen.getD 1 0)).all (elB 1) = true := by decide +kernel
theorem sw_el2 : (List.range (sLen.getD 2 0)).all (elB 2) = true := by decide +kernel
theorem sw_el3 : (List.range (sLen.getD 3 0)).all (elB 3) = true := by decide +kernel
theorem sw_el4 : (List.range (sLen.getD 4 0)).all (elB 4) = true := by decide +kernel
theorem sw_el5 : (List.range (sLen.getD 5 0)).all (elB 5) = true := by decide +kernel
theorem sw_el6 : (List.range (sLen.getD 6 0)).all (elB 6) = true := by decide +kernel
theorem sw_el7 : (List.range (sLen.getD 7 0)).all (elB 7) = true := by decide +kernel
theorem sw_el8 : (List.range (sLen.getD 8 0)).all (elB 8) = true := by decide +kernel
theorem sw_el9 : (List.range (sLen.getD 9 0)).all (elB 9) = true := by decide +kernel
theorem sw_el10 : (List.range (sLen.getD 10 0)).all (elB 10) = true := by decide +kernel
theorem sw_el11 : (List.range (sLen.getD 11 0)).all (elB 11) = true := by decide +kernel
theorem sw_el12 : (List.range (sLen.getD 12 0)).all (elB 12) = true := by decide +kernel
theorem sw_el13 : (List.range (sLen.getD 13 0)).all (elB 13) = true := by decide +kernel
theorem sw_el14 : (List.range (sLen.getD 14 0)).all (elB 14) = true := by decide +kernel
theorem sw_el15 : (List.range (sLen.getD 15 0)).all (elB 15) = true := by decide +kernel
theorem sw_el16 : (List.range (sLen.getD 16 0)).all (elB 16) = true := by decide +kernel
theorem sw_el17 : (List.range (sLen.getD 17 0)).all (elB 17) = true := by decide +kernel
theorem sw_el18 : (List.range (sLen.getD 18 0)).all (elB 18) = true := by decide +kernel
theorem sw_el19 : (List.range (sLen.getD 19 0)).all (elB 19) = true := by decide +kernel
theorem sw_el20 : (List.range (sLen.getD 20 0)).all (elB 20) = true := by decide +kernel
theorem sw_el21 : (List.range (sLen.getD 21 0)).all (elB 21) = true := by decide +kernel
theorem sw_el22 : (List.range (sLen.getD 22 0)).all (elB 22) = true := by decide +kernel
theorem sw_el23 : (List.range (sLen.getD 23 0)).all (elB 23) = true := by decide +kernel
theorem sw_ne0 : (List.range 24).all (neB 0) = true := by decide +kernel
theorem sw_ne1 : (List.range 24).all (neB 1) = true := by decide +kernel
theorem sw_ne2 : (List.range 24).all (neB 2) = true := by decide +kernel
theorem sw_ne3 : (List.range 24).all (neB 3) = true := by decide +kernel
theorem sw_ne4 : (List.range 24).all (neB 4) = true := by decide +kernel
theorem sw_ne5 : (List.range 24).all (neB 5) = true := by decide +kernel
theorem sw_ne6 : (List.range 24).all (neB 6) = true := by decide +kernel
theorem sw_ne7 : (List.range 24).all (neB 7) = true := by decide +kernel
theorem sw_ne8 : (List.range 24).all (neB 8) = true := by decide +kernel
theorem sw_ne9 : (List.range 24).all (neB 9) = true := by decide +kernel
theorem sw_ne10 : (List.range 24).all (neB 10) = true := by decide +kernel
theorem sw_ne11 : (List.range 24).all (neB 11) = true := by decide +kernel
theorem sw_ne12 : (List.range 24).all (neB 12) = true := by decide +kernel
theorem sw_ne13 : (List.range 24).all (neB 13) = true := by decide +kernel
theorem sw_ne14 : (List.range 24).all (neB 14) = true := by decide +kernel
theorem sw_ne15 : (List.range 24).all (neB 15) = true := by decide +kernel
theorem sw_ne16 : (List.range 24).all (neB 16) = true := by decide +kernel
theorem sw_ne17 : (List.range 24).all (neB 17) = true := by decide +kernel
theorem sw_ne18 : (List.range 24).all (neB 18) = true := by decide +kernel
theorem sw_ne19 : (List.range 24).all (neB 19) = true := by decide +kernel
theorem sw_ne20 : (List.range 24).all (neB 20) = true := by decide +kernel
theorem sw_ne21 : (List.range 24).all (neB 21) = true := by decide +kernel
theorem sw_ne22 : (List.range 24).all (neB 22) = true := by decide +kernel
theorem sw_ne23 : (List.range 24).all (neB 23) = true := by decide +kernel
theorem sw_el (i : Nat) (hi : i < 24) : (List.range (sLen.getD i 0)).all (elB i) = true := by
  match i, hi with
  | 0, _ => exact sw_el0
  | 1, _ => exact sw_el1
  | 2, _ => exact sw_el2
  | 3, _ => exact sw_el3
  | 4, _ => exact sw_el4
  | 5, _ => exact sw_el5
  | 6, _ => exact sw_el6
  | 7, _ => exact sw_el7
  | 8, _ => exact sw_el8
  | 9, _ => exact sw_el9
  | 10, _ => exact sw_el10
  | 11, _ => exact sw_el11
  | 12, _ => exact sw_el12
  | 13, _ => exact sw_el13
  | 14, _ => exact sw_el14
  | 15, _ => exact sw_el15
  | 16, _ => exact sw_el16
  | 17, _ => exact sw_el17
  | 18, _ => exact sw_el18
  | 19, _ => exact sw_el19
  | 20, _ => exact sw_el20
  | 21, _ => exact sw_el21
  | 22, _ => exact sw_el22
  | 23, _ => exact sw_el23
  | i + 24, hi => omega
theorem sw_ne (i : Nat) (hi : i < 24) : (List.range 24).all (neB i) = true := by
  match i, hi with
  | 0, _ => exact sw_ne0
  | 1, _ => exact sw_ne1
  | 2, _ => exact sw_ne2
  | 3, _ => exact sw_ne3
  | 4, _ => exact sw_ne4
  | 5, _ => exact sw_ne5
  | 6, _ => exact sw_ne6
  | 7, _ => exact sw_ne7
  | 8, _ => exact sw_ne8
  | 9, _ => exact sw_ne9
  | 10, _ => exact sw_ne10
  | 11, _ => exact sw_ne11
  | 12, _ => exact sw_ne12
  | 13, _ => exact sw_ne13
  | 14, _ => exact sw_ne14
  | 15, _ => exact sw_ne15
  | 16, _ => exact sw_ne16
  | 17, _ => exact sw_ne17
  | 18, _ => exact sw_ne18
  | 19, _ => exact sw_ne19
  | 20, _ => exact sw_ne20
  | 21, _ => exact sw_ne21
  | 22, _ => exact sw_ne22
  | 23, _ => exact sw_ne23
  | i + 24, hi => omega
theorem sw_at : sAt.all (fun q => decide (Cond.stringRef (cn q.1) q.2.1 (sTx.getD q.2.2 "") ∈ lw_tbl) && decide (q.2.2 < 24) && (decide (sTm q.2.2 = .string (cn q.1) q.2.1) || decide (Cond.eq (sTm q.2.2) (.string (cn q.1) q.2.1) ∈ sFl))) = true := by decide +kernel
theorem va_Nw_of {args : Array Value} {s : State} {w : Cond} (h : w.before args s = true) (hn : isNest w = true) : va_Nw w s := by
  cases w <;> first | exact h | cases hn
theorem aoa_spec {U : State} (h : va_AOA .int U) : ∃ comp c k, U.vm.classes[c]? = some k ∧ k.kind = .array comp (.array .int) ∧ U.vm.findClass ("[" ++ (FieldType.array .int).toString) = some c := by
  unfold va_AOA at h
  simp only [Cond.before, Cond.holds, Cond.value, beq_iff_eq] at h
  cases hc : U.vm.findClass (FieldType.array .int).toString with
  | none => simp [hc] at h
  | some comp =>
    simp only [hc, Option.bind_some, Option.bind_eq_some_iff, Option.map_eq_some_iff] at h
    obtain ⟨c, hi, k, hk, hb⟩ := h
    obtain ⟨hlt, hp, -⟩ := Array.findIdx?_eq_some_iff_getElem.mp hi
    have hkk : U.vm.classes[c] = k := (Array.getElem?_eq_some_iff.mp hk).2
    rw [hkk] at hp
    cases hkind : k.kind with
    | array component ty =>
      rw [hkind] at hb hp
      simp at hb hp
      exact ⟨comp, c, k, hk, by rw [hkind, hp, hb.1], hb.2⟩
    | _ => rw [hkind] at hb; simp at hb
theorem ac_of {s : State} {args : Array Value} {ty : FieldType} (h : (Cond.arrayClass ty).before args s = true) : ∃ cA, ArrOfT s cA ty ∧ s.vm.findClass ("[" ++ ty.toString) = some cA := by
  obtain ⟨c, k, comp, h1, h2, h3⟩ := Cond.arrayClass_spec h
  exact ⟨c, fun n z => ⟨fun k h => (by cases h), k, h2, comp, h3⟩, h1⟩
theorem sw_w1 : Cond.arrayClass .int ∈ lw_tbl ∧ Cond.arrayClass .long ∈ lw_tbl ∧ Cond.arrayClass .byte ∈ lw_tbl := by decide +kernel
theorem sw_w2 : Cond.arrayOver (.object RX3) ∈ lw_tbl ∧ Cond.arrayOver (.array .int) ∈ lw_tbl := by decide +kernel
theorem sw_w3 : Cond.laysStatic Bundle.tN "UNASSIGNED_STACK" Bundle.steD ∈ lw_tbl ∧ Cond.initialized Bundle.tN ∈ lw_tbl ∧ Cond.laysStatic Bundle.tN "SUPPRESSED_SENTINEL" Bundle.listD ∈ lw_tbl := by decide +kernel
theorem sw_w4 : Cond.laysStatic "java/lang/String" "COMPACT_STRINGS" "Z" ∈ lw_tbl ∧ Cond.initialized "java/lang/String" ∈ lw_tbl ∧ Cond.laysStatic "jdk/internal/util/Preconditions" "SIOOBE_FORMATTER" "Ljava/util/function/BiFunction;" ∈ lw_tbl ∧ Cond.initialized "jdk/internal/util/Preconditions" ∈ lw_tbl := by decide +kernel
theorem sw_f1 : Cond.isRef (.static Bundle.tN "UNASSIGNED_STACK" Bundle.steD) ∈ sFl ∧ Cond.isRef (.static Bundle.tN "SUPPRESSED_SENTINEL" Bundle.listD) ∈ sFl ∧ Cond.eq (.static "java/lang/String" "COMPACT_STRINGS" "Z") (.int 1) ∈ sFl ∧ Cond.isRef (.static "jdk/internal/util/Preconditions" "SIOOBE_FORMATTER" "Ljava/util/function/BiFunction;") ∈ sFl ∧ Cond.not (.castable "java/lang/IllegalArgumentException" "java/util/NoSuchElementException") ∈ sFl := by decide +kernel
set_option maxHeartbeats 4000000 in
theorem start_bas {p : Program} {s : State} {m : MethodId} {meth : Method} {c : Code} {b L : Nat} {xs : Nat → Int32} (C0 : lw_At p s m meth c b L xs) : ∃ G : GG, GOK G ∧ Bas G s ∧ gb G = s.heap.size ∧ gH G = s.heap ∧ gL G = L ∧ gX G = xs ∧ gr G 2000000 = b := by
  obtain ⟨hx, hb, hr, hml, hown, hts, hX, hbl, hlk, hgv⟩ := C0
  have hfl : ∀ w ∈ sFl, w.before #[Value.ref b] s = true := flat_of_before _ hgv
  have hgw : ∀ w ∈ gw, w.before #[Value.ref b] s = true := fun w hw => hts w (List.mem_filter.mp hw).1
  have hA : ∀ a : Nat, a < s.heap.size → ¬ (fun q : Nat => s.heap.size ≤ q) a := fun a ha z => by
    have z : s.heap.size ≤ a := z
    omega
  -- the classes
  have h1 : ∀ ci : Nat, ∃ q : ClassId × (Nat → Nat), ∀ w, vwCl[ci]? = some w → u_Kn s w.1 w.2.1 w.2.2 q.1 q.2 := by
    intro ci
    cases hq : vwCl[ci]? with
    | none => exact ⟨(0, fun _ => 0), fun w z => by cases z⟩
    | some w =>
      obtain ⟨C, T, N⟩ := w
      have ok := clOK_all hq
      obtain ⟨cC, iS, hk⟩ := u_known (ws := gw) hgw ok.1 (hgw _ ok.2.2.2.1)
      exact ⟨(cC, iS), fun w z => by cases z; exact hk⟩
  obtain ⟨dd, hdd⟩ := Classical.axiomOfChoice h1
  -- the arrays
  obtain ⟨c0, a0, f0⟩ := ac_of (hts _ sw_w1.1)
  obtain ⟨c1, a1, f1⟩ := ac_of (hts _ sw_w1.2.1)
  obtain ⟨c2, a2, f2⟩ := ac_of (hts _ sw_w1.2.2)
  have hO : va_AO RX3 s := va_AO.of (hts _ sw_w2.1)
  have hOA : va_AOA .int s := hts _ sw_w2.2
  obtain ⟨m3, c3, k3, e3, e4, e5⟩ := aoa_spec hOA
  obtain ⟨m4, c4, k4, e6, -, e7, e8, e9⟩ := Cond.arrayOver_spec (args := #[]) (first := s) (o := none) (idx := []) hO
  -- the texts
  have rg : ∀ {n : Nat} {f : Nat → Bool}, (List.range n).all f = true → ∀ i, i < n → f i = true := fun h i hi => List.all_eq_true.mp h i (List.mem_range.mpr hi)
  obtain ⟨adK, adV, hS, hE⟩ := vk_Sof (args := #[Value.ref b]) (s := s) (N := 24) (tm := sTm) (len := sLen) (byt := sBy) (A := fun q : Nat => s.heap.size ≤ q) (fun i _ => by have := sLen_le i; omega)
    (fun i hi => hfl _ (of_decide_eq_true (rg sw_ex i hi))) (fun i hi => hfl _ (of_decide_eq_true (rg sw_co i hi))) (fun i hi => hfl _ (of_decide_eq_true (rg sw_ar i hi))) (fun i hi => hfl _ (of_decide_eq_true (rg sw_le i hi)))
    (fun i hi j hj => hfl _ (List.mem_of_getElem? (of_decide_eq_true (rg (sw_el i hi) j hj))))
    (fun i j hi hj hij => by
      have := rg (sw_ne i hi) j hj
      unfold neB at this
      simp only [Bool.or_eq_true, decide_eq_true_eq] at this
      rcases this with z | z
      · exact absurd z hij
      · split at z
        · exact Or.inl (hfl _ (List.mem_of_getElem? (of_decide_eq_true z)))
        · exact Or.inr (hfl _ (List.mem_of_getElem? (of_decide_eq_true z)))) hA
  let G : GG := ((fun ci => (dd ci).1, fun ci => (dd ci).2), (fun k => if k = 0 then c0 else if k = 1 then c1 else if k = 2 then c2 else if k = 3 then c3 else c4), (fun k => if k = 2000000 then b else if k ≤ 1000000 then s.heap.size + k else adK (k - 1500000)), s.heap.size, s.heap, adV, L, xs)
  refine ⟨G, ⟨fun k hk => ?_, rfl⟩, ⟨⟨fun ci w hw => hdd ci w hw, fun k q hq => ?_⟩, ?_, hO, hOA, fun w hw => ?_, ?_, fun q hq => ?_, ?_, ?_, ?_, ?_, ?_⟩, rfl, rfl, rfl, rfl, ?_⟩
  · show (if k = 2000000 then b else if k ≤ 1000000 then s.heap.size + k else adK (k - 1500000)) = s.heap.size + k
    rw [if_neg (by omega), if_pos hk]
  · match k, hq with
    | 0, hq => cases hq; exact ⟨a0, f0⟩
    | 1, hq => cases hq; exact ⟨a1, f1⟩
    | 2, hq => cases hq; exact ⟨a2, f2⟩
    | 3, hq => cases hq; exact ⟨fun n z => ⟨fun k h => (by cases h), k3, e3, m3, e4⟩, e5⟩
    | 4, hq => cases hq; exact ⟨fun n z => ⟨fun k h => (by cases h), k4, e7, m4, e8⟩, k4, m4, e7, e8, e6, e9⟩
    | k + 5, hq => cases hq
  · exact hX
  · exact va_Nw_of (hts w (List.mem_filter.mp hw).1) (List.mem_filter.mp hw).2
  · have e : (fun j => gr G (1500000 + j)) = fun j => if 1500000 + j = 2000000 then b else adK j := by
      funext j
      show (if 1500000 + j = 2000000 then b else if 1500000 + j ≤ 1000000 then s.heap.size + (1500000 + j) else adK (1500000 + j - 1500000)) = _
      rw [if_neg (show ¬ 1500000 + j ≤ 1000000 by omega), show 1500000 + j - 1500000 = j by omega]
    rw [e]
    have e2 : ∀ j, j < 24 → (if 1500000 + j = 2000000 then b else adK j) = adK j := fun j hj => if_neg (by omega)
    refine ⟨fun i hi => ?_, fun i j hi hj => ?_⟩
    · show va_O _ (if 1500000 + i = 2000000 then b else adK i) _ _ _ ∧ va_OF _ _ _ _ (if 1500000 + i = 2000000 then b else adK i) _ _ _ ∧ va_OF _ _ _ _ (if 1500000 + i = 2000000 then b else adK i) _ _ _ ∧ _
      rw [e2 i hi]
      exact hS.1 i hi
    · show (if 1500000 + i = 2000000 then b else adK i) = (if 1500000 + j = 2000000 then b else adK j) → _
      rw [e2 i hi, e2 j hj]
      exact hS.2 i j hi hj
  · have hq9 := List.all_eq_true.mp sw_at q hq
    simp only [Bool.and_eq_true, Bool.or_eq_true, decide_eq_true_eq] at hq9
    obtain ⟨⟨q1, q2⟩, q3⟩ := hq9
    have e : gr G (1500000 + q.2.2) = adK q.2.2 := by
      show (if 1500000 + q.2.2 = 2000000 then b else if 1500000 + q.2.2 ≤ 1000000 then s.heap.size + (1500000 + q.2.2) else adK (1500000 + q.2.2 - 1500000)) = _
      rw [if_neg (by omega), if_neg (by omega), show 1500000 + q.2.2 - 1500000 = q.2.2 by omega]
    rw [e]
    refine vk_R.of (hts _ q1) ?_
    rcases q3 with z | z
    · rw [← z]; exact hE _ q2
    · exact va_eqR (hfl _ z) (hE _ q2)
  · exact vx_Zqof (hts _ sw_w3.1) (hts _ sw_w3.2.1) (hfl _ sw_f1.1) hA
  · exact vx_Zqof (hts _ sw_w3.2.2) (hts _ sw_w3.2.1) (hfl _ sw_f1.2.1) hA
  · exact va_Zof (hts _ sw_w4.1) (hts _ sw_w4.2.1) (va_eqi (hfl _ sw_f1.2.2.1)) hA
  · exact va_Zqof (hts _ sw_w4.2.2.1) (hts _ sw_w4.2.2.2) (hfl _ sw_f1.2.2.2.1) hA
  · exact va_Nc.of (hfl _ sw_f1.2.2.2.2)
  · show (if 2000000 = 2000000 then b else if 2000000 ≤ 1000000 then s.heap.size + 2000000 else adK (2000000 - 1500000)) = b
    rw [if_pos rfl]
