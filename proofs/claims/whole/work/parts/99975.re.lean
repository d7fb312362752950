/-! ===== questions of the law ===== -/
theorem q_told {d : Nat} {x1 : Int32} {M : MM} {ab sa ru sr li sn dk m c W i T : Nat} {A : AB} {tk : Nat → Nat × Nat} {tx : Nat → Nat} (h : RR M ab sa ru sr li sn dk A m tk c W i T tx) (hx : nx M + 6 < 900000) (hd : 200 ≤ d) : CIi d M 273 209 [.ref 0, .int x1, .ref 547] [.ref 53, .int x1] := by
  have hP := h.1.P
  have hS := h.W.1
  have hl8 : fi M li 2 = fi M 53 31 := h.1.2.2.2.2.1.1.trans h.1.2.2.2.2.1.2.2.1.symm
  have h14 : fi M 0 14 = fi M 53 33 := h.1.2.2.2.2.2.1.2.2.2
  by_cases v : inR x1 0 11
  · obtain ⟨w, -, w1, rfl⟩ := v
    exact ci_M h (wL_told hS hS (by omega) (c_told (d := d - 1) hP (by omega) hl8 h14 w1)) (m_told (d := d) (by omega) (h.L _).1.M w1)
  · exact ci_b h hx (E := 1) (k := 1) (by decide) (by decide) (wL_told_1 hS (by omega) (c_told_b (d := d - 1) hP (by omega) v)) (m_told_b (d := d) (by omega) (h.1.C 1 (by decide) (by omega)).M v)
theorem q_picture {d : Nat} {x1 x2 : Int32} {M : MM} {ab sa ru sr li sn dk m c W i T : Nat} {A : AB} {tk : Nat → Nat × Nat} {tx : Nat → Nat} (h : RR M ab sa ru sr li sn dk A m tk c W i T tx) (hx : nx M + 6 < 900000) (hd : 200 ≤ d) : CIi d M 274 211 [.ref 0, .int x1, .int x2, .ref 547] [.ref 53, .int x1, .int x2] := by
  have hP := h.1.P
  have hS := h.W.1
  by_cases v1 : inR x1 0 A.1
  · obtain ⟨p, -, p1, rfl⟩ := v1
    by_cases v2 : inR x2 0 9
    · obtain ⟨w, -, w1, rfl⟩ := v2
      exact ci_M h (wL_picture hS hS (by omega) (c_picture (d := d - 1) hP (by omega) p1 w1)) (m_picture (d := d) (by omega) (h.L _).1.M p1 w1)
    · exact ci_b h hx (E := 1) (k := 2) (by decide) (by decide) (wL_picture_1 hS (by omega) (c_picture_b2 (d := d - 1) hP (by omega) p1 v2)) (m_picture_b2 (d := d) (by omega) (h.1.C 1 (by decide) (by omega)).M ⟨p, Nat.zero_le _, p1, rfl⟩ v2)
  · exact ci_b h hx (E := 0) (k := 1) (by decide) (by decide) (wL_picture_0 hS (by omega) (c_picture_b1 (d := d - 1) hP (by omega) v1)) (m_picture_b1 (d := d) (by omega) (h.1.C 0 (by decide) (by omega)).M v1)
theorem q_person {d : Nat} {x1 x2 : Int32} {M : MM} {ab sa ru sr li sn dk m c W i T : Nat} {A : AB} {tk : Nat → Nat × Nat} {tx : Nat → Nat} (h : RR M ab sa ru sr li sn dk A m tk c W i T tx) (hx : nx M + 6 < 900000) (hd : 200 ≤ d) : CIi d M 275 214 [.ref 0, .int x1, .int x2, .ref 547] [.ref 53, .int x1, .int x2] := by
  have hP := h.1.P
  have hS := h.W.1
  by_cases v1 : inR x1 0 6
  · obtain ⟨x, -, p1, rfl⟩ := v1
    by_cases v2 : inR x2 0 2
    · obtain ⟨w, -, w1, rfl⟩ := v2
      have cc := c_person (d := d - 1) hP (by omega) p1 w1
      have e9 : (nI (A.2.2.1 x) : Int32) = ai M 59 x := ((h.1.2.2.1).2.2.2.1 x p1).symm
      rw [e9] at cc
      exact ci_M h (wL_person hS hS (by omega) cc) (m_person (d := d) (by omega) (h.L _).1.M p1 w1)
    · exact ci_b h hx (E := 1) (k := 2) (by decide) (by decide) (wL_person_1 hS (by omega) (c_person_b2 (d := d - 1) hP (by omega) p1 v2)) (m_person_b2 (d := d) (by omega) (h.1.C 1 (by decide) (by omega)).M ⟨x, Nat.zero_le _, p1, rfl⟩ v2)
  · exact ci_b h hx (E := 0) (k := 1) (by decide) (by decide) (wL_person_0 hS (by omega) (c_person_b1 (d := d - 1) hP (by omega) v1)) (m_person_b1 (d := d) (by omega) (h.1.C 0 (by decide) (by omega)).M v1)
theorem q_together {d : Nat} {x1 x2 x3 : Int32} {M : MM} {ab sa ru sr li sn dk m c W i T : Nat} {A : AB} {tk : Nat → Nat × Nat} {tx : Nat → Nat} (h : RR M ab sa ru sr li sn dk A m tk c W i T tx) (hx : nx M + 6 < 900000) (hd : 200 ≤ d) : CIi d M 294 215 [.ref 0, .int x1, .int x2, .int x3, .ref 547] [.ref 53, .int x1, .int x2, .int x3] := by
  have hP := h.1.P
  have hS := h.W.1
  by_cases v1 : inR x1 0 6 ∧ inR x2 0 6
  · obtain ⟨⟨x, -, p1, rfl⟩, ⟨y, -, p2, rfl⟩⟩ := v1
    by_cases v2 : inR x3 0 2
    · obtain ⟨w, -, w1, rfl⟩ := v2
      exact ci_M h (wL_together hS hS (by omega) (c_together (d := d - 1) hP (by omega) p1 p2 w1)) (m_together (d := d) (by omega) (h.L _).1.M p1 p2 w1)
    · exact ci_b h hx (E := 1) (k := 2) (by decide) (by decide) (wL_together_1 hS (by omega) (c_together_b2 (d := d - 1) hP (by omega) p1 p2 v2)) (m_together_b2 (d := d) (by omega) (h.1.C 1 (by decide) (by omega)).M ⟨x, Nat.zero_le _, p1, rfl⟩ ⟨y, Nat.zero_le _, p2, rfl⟩ v2)
  · exact ci_b h hx (E := 0) (k := 1) (by decide) (by decide) (wL_together_0 hS (by omega) (c_together_b1 (d := d - 1) hP (by omega) v1)) (m_together_b1 (d := d) (by omega) (h.1.C 0 (by decide) (by omega)).M v1)
theorem q_friend {d : Nat} {x1 x2 : Int32} {M : MM} {ab sa ru sr li sn dk m c W i T : Nat} {A : AB} {tk : Nat → Nat × Nat} {tx : Nat → Nat} (h : RR M ab sa ru sr li sn dk A m tk c W i T tx) (hx : nx M + 6 < 900000) (hd : 200 ≤ d) : CIi d M 298 216 [.ref 0, .int x1, .int x2, .ref 547] [.ref 53, .int x1, .int x2] := by
  have hP := h.1.P
  have hS := h.W.1
  by_cases v1 : inR x1 0 6
  · obtain ⟨x, -, p1, rfl⟩ := v1
    by_cases v2 : inR x2 0 2
    · obtain ⟨w, -, w1, rfl⟩ := v2
      exact ci_M h (wL_friend hS hS (by omega) (c_friend (d := d - 1) hP (by omega) p1 w1)) (m_friend (d := d) (by omega) (h.L _).1.M p1 w1)
    · exact ci_b h hx (E := 1) (k := 2) (by decide) (by decide) (wL_friend_1 hS (by omega) (c_friend_b2 (d := d - 1) hP (by omega) p1 v2)) (m_friend_b2 (d := d) (by omega) (h.1.C 1 (by decide) (by omega)).M ⟨x, Nat.zero_le _, p1, rfl⟩ v2)
  · exact ci_b h hx (E := 0) (k := 1) (by decide) (by decide) (wL_friend_0 hS (by omega) (c_friend_b1 (d := d - 1) hP (by omega) v1)) (m_friend_b1 (d := d) (by omega) (h.1.C 0 (by decide) (by omega)).M v1)
theorem q_swap {d : Nat} {x1 x2 : Int32} {M : MM} {ab sa ru sr li sn dk m c W i T : Nat} {A : AB} {tk : Nat → Nat × Nat} {tx : Nat → Nat} (h : RR M ab sa ru sr li sn dk A m tk c W i T tx) (hx : nx M + 6 < 900000) (hd : 200 ≤ d) : CIi d M 280 230 [.ref 0, .int x1, .int x2, .ref 547] [.ref 53, .int x1, .int x2] := by
  have hP := h.1.P
  have hS := h.W.1
  by_cases v : inR x1 0 (2 ^ A.1) ∧ inR x2 0 3
  · obtain ⟨⟨b, -, b1, rfl⟩, ⟨w, -, w1, rfl⟩⟩ := v
    exact ci_M h (wL_swap hS hS (by omega) (c_swap (d := d - 1) hP (by omega) b1 w1)) (m_swap (d := d) (by omega) (h.L _).1.M b1 w1)
  · exact ci_b h hx (E := 1) (k := 1) (by decide) (by decide) (wL_swap_1 hS (by omega) (c_swap_b (d := d - 1) hP (by omega) v)) (m_swap_b (d := d) (by omega) (h.1.C 1 (by decide) (by omega)).M v)
theorem q_heaps {d : Nat} {x1 : Int32} {M : MM} {ab sa ru sr li sn dk m c W i T : Nat} {A : AB} {tk : Nat → Nat × Nat} {tx : Nat → Nat} (h : RR M ab sa ru sr li sn dk A m tk c W i T tx) (hx : nx M + 6 < 900000) (hd : 200 ≤ d) : CIi d M 282 233 [.ref 0, .int x1, .ref 547] [.ref 53, .int x1] := by
  have hP := h.1.P
  have hS := h.W.1
  by_cases v : inR x1 0 3
  · obtain ⟨w, -, w1, rfl⟩ := v
    exact ci_M h (wL_heaps hS hS (by omega) (c_heaps (d := d - 1) hP (by omega) w1)) (m_heaps (d := d) (by omega) (h.L _).1.M w1)
  · exact ci_b h hx (E := 1) (k := 1) (by decide) (by decide) (wL_heaps_1 hS (by omega) (c_heaps_b (d := d - 1) hP (by omega) v)) (m_heaps_b (d := d) (by omega) (h.1.C 1 (by decide) (by omega)).M v)
theorem q_doubles {d : Nat} {x1 : Int32} {M : MM} {ab sa ru sr li sn dk m c W i T : Nat} {A : AB} {tk : Nat → Nat × Nat} {tx : Nat → Nat} (h : RR M ab sa ru sr li sn dk A m tk c W i T tx) (hx : nx M + 6 < 900000) (hd : 200 ≤ d) : CIi d M 283 234 [.ref 0, .int x1, .ref 547] [.ref 53, .int x1] := by
  have hP := h.1.P
  have hS := h.W.1
  by_cases v : inR x1 0 A.1
  · obtain ⟨w, -, w1, rfl⟩ := v
    exact ci_M h (wL_doubles hS hS (by omega) (c_doubles (d := d - 1) hP (by omega) w1)) (m_doubles (d := d) (by omega) (h.L _).1.M w1)
  · exact ci_b h hx (E := 0) (k := 1) (by decide) (by decide) (wL_doubles_0 hS (by omega) (c_doubles_b (d := d - 1) hP (by omega) v)) (m_doubles_b (d := d) (by omega) (h.1.C 0 (by decide) (by omega)).M v)
theorem q_day {d : Nat} {x1 x2 : Int32} {M : MM} {ab sa ru sr li sn dk m c W i T : Nat} {A : AB} {tk : Nat → Nat × Nat} {tx : Nat → Nat} (h : RR M ab sa ru sr li sn dk A m tk c W i T tx) (hx : nx M + 6 < 900000) (hd : 200 ≤ d) : CIi d M 293 254 [.ref 0, .int x1, .int x2, .ref 547] [.ref 53, .int x1, .int x2] := by
  have hP := h.1.P
  have hS := h.W.1
  by_cases v : inR x1 0 31 ∧ inR x2 0 2
  · obtain ⟨⟨b, -, b1, rfl⟩, ⟨w, -, w1, rfl⟩⟩ := v
    exact ci_M h (wL_day hS hS (by omega) (c_day (d := d - 1) hP (by omega) b1 w1)) (m_day (d := d) (by omega) (h.L _).1.M b1 w1)
  · exact ci_b h hx (E := 1) (k := 1) (by decide) (by decide) (wL_day_1 hS (by omega) (c_day_b (d := d - 1) hP (by omega) v)) (m_day_b (d := d) (by omega) (h.1.C 1 (by decide) (by omega)).M v)
theorem q_scene {d : Nat} {x1 x2 : Int32} {M : MM} {ab sa ru sr li sn dk m c W i T : Nat} {A : AB} {tk : Nat → Nat × Nat} {tx : Nat → Nat} (h : RR M ab sa ru sr li sn dk A m tk c W i T tx) (hx : nx M + 6 < 900000) (hd : 200 ≤ d) : CIi d M 297 255 [.ref 0, .int x1, .int x2, .ref 547] [.ref 53, .int x1, .int x2] := by
  have hP := h.1.P
  have hS := h.W.1
  by_cases v : inR x1 0 10 ∧ inR x2 0 2
  · obtain ⟨⟨b, -, b1, rfl⟩, ⟨w, -, w1, rfl⟩⟩ := v
    exact ci_M h (wL_scene hS hS (by omega) (c_scene (d := d - 1) hP (by omega) b1 w1)) (m_scene (d := d) (by omega) (h.L _).1.M b1 w1)
  · exact ci_b h hx (E := 1) (k := 1) (by decide) (by decide) (wL_scene_1 hS (by omega) (c_scene_b (d := d - 1) hP (by omega) v)) (m_scene_b (d := d) (by omega) (h.1.C 1 (by decide) (by omega)).M v)
theorem q_binned {d : Nat} {x1 : Int32} {M : MM} {ab sa ru sr li sn dk m c W i T : Nat} {A : AB} {tk : Nat → Nat × Nat} {tx : Nat → Nat} (h : RR M ab sa ru sr li sn dk A m tk c W i T tx) (hx : nx M + 6 < 900000) (hd : 200 ≤ d) : CIi d M 296 220 [.ref 0, .int x1, .ref 547] [.ref 53, .int x1] := by
  have hP := h.1.P
  have hS := h.W.1
  by_cases v : inR x1 0 A.1
  · obtain ⟨w, -, w1, rfl⟩ := v
    exact ci_M h (wL_binned hS hS (by omega) (c_binned (d := d - 1) hP (by omega) h.1.2.2.1.2.2.2.2.2.2 w1)) (m_binned (d := d) (by omega) (h.L _).1.M w1)
  · exact ci_b h hx (E := 0) (k := 1) (by decide) (by decide) (wL_binned_0 hS (by omega) (c_binned_b (d := d - 1) hP (by omega) v)) (m_binned_b (d := d) (by omega) (h.1.C 0 (by decide) (by omega)).M v)
theorem q_leave {d : Nat} {x1 : Int32} {M : MM} {ab sa ru sr li sn dk m c W i T : Nat} {A : AB} {tk : Nat → Nat × Nat} {tx : Nat → Nat} (h : RR M ab sa ru sr li sn dk A m tk c W i T tx) (hx : nx M + 6 < 900000) (hd : 200 ≤ d) : CIi d M 285 240 [.ref 0, .int x1, .ref 547] [.ref 53, .int x1] := by
  have hP := h.1.P
  have hS := h.W.1
  by_cases v : inR x1 1 13
  · obtain ⟨w, w0, w1, rfl⟩ := v
    exact ci_M h (wL_leave hS hS (by omega) (c_leave (d := d - 1) hP (by omega) w0 w1)) (m_leave (d := d) (by omega) (h.L _).W.1 w0 w1)
  · exact ci_b h hx (E := 1) (k := 1) (by decide) (by decide) (wL_leave_1 hS (by omega) (c_leave_b (d := d - 1) hP (by omega) v)) (m_leave_b (d := d) (by omega) (h.1.C 1 (by decide) (by omega)).1.1 v)
theorem q_need {d : Nat} {x1 x2 x3 : Int32} {M : MM} {ab sa ru sr li sn dk m c W i T : Nat} {A : AB} {tk : Nat → Nat × Nat} {tx : Nat → Nat} (h : RR M ab sa ru sr li sn dk A m tk c W i T tx) (hx : nx M + 6 < 900000) (hd : 200 ≤ d) : CIi d M 292 245 [.ref 0, .int x1, .int x2, .int x3, .ref 547] [.ref 53, .int x1, .int x2, .int x3] := by
  have hP := h.1.P
  have hS := h.W.1
  by_cases v : inR x1 0 3 ∧ inR x2 0 17 ∧ inR x3 0 17
  · obtain ⟨⟨x, -, b1, rfl⟩, ⟨q, -, b2, rfl⟩, ⟨w, -, w1, rfl⟩⟩ := v
    exact ci_M h (wL_need hS hS (by omega) (c_need (d := d - 1) hP (by omega) b1 b2 w1)) (m_need (d := d) (by omega) (h.L _).W.1 b1 b2 w1)
  · exact ci_b h hx (E := 1) (k := 1) (by decide) (by decide) (wL_need_1 hS (by omega) (c_need_b (d := d - 1) hP (by omega) v)) (m_need_b (d := d) (by omega) (h.1.C 1 (by decide) (by omega)).1.1 v)
theorem q_off {d : Nat} {x1 x2 : Int32} {M : MM} {ab sa ru sr li sn dk m c W i T : Nat} {A : AB} {tk : Nat → Nat × Nat} {tx : Nat → Nat} (h : RR M ab sa ru sr li sn dk A m tk c W i T tx) (hx : nx M + 6 < 900000) (hd : 200 ≤ d) : CIi d M 290 252 [.ref 0, .int x1, .int x2, .ref 547] [.ref 53, .int x1, .int x2] := by
  have hP := h.1.P
  have hS := h.W.1
  by_cases v : inR x1 0 11 ∧ inR x2 0 4
  · obtain ⟨⟨b, -, b1, rfl⟩, ⟨w, -, w1, rfl⟩⟩ := v
    exact ci_M h (wL_off hS hS (by omega) (c_off (d := d - 1) hP (by omega) h.1.2.2.2.2.1 b1 w1)) (m_off (d := d) (by omega) (h.L _).W.1 h.1.2.2.2.2.1.2.2.1 h.1.2.2.2.2.1.2.1 b1 w1)
  · exact ci_b h hx (E := 1) (k := 1) (by decide) (by decide) (wL_off_1 hS (by omega) (c_off_b (d := d - 1) hP (by omega) v)) (m_off_b (d := d) (by omega) (h.1.C 1 (by decide) (by omega)).1.1 v)
theorem q_line {d : Nat} {x1 x2 x3 : Int32} {M : MM} {ab sa ru sr li sn dk m c W i T : Nat} {A : AB} {tk : Nat → Nat × Nat} {tx : Nat → Nat} (h : RR M ab sa ru sr li sn dk A m tk c W i T tx) (hx : nx M + 6 < 900000) (hd : 200 ≤ d) : CLl d M 284 239 [.ref 0, .int x1, .int x2, .int x3, .ref 547] [.ref 53, .int x1, .int x2, .int x3] := by
  have hP := h.1.P
  have hS := h.W.1
  by_cases v : ∃ m, x1 = nI m ∧ 1 ≤ m ∧ m < 13 ∧ inR x2 0 m ∧ inR x3 0 2
  · obtain ⟨q, rfl, q1, q2, ⟨r, -, r1, rfl⟩, ⟨w, -, w1, rfl⟩⟩ := v
    exact cl_M h (wL_line hS hS (by omega) (c_line (d := d - 1) hP (by omega) q2 r1 w1)) (m_line (d := d) (by omega) (h.L _).W.1 q2 r1 w1)
  · exact cl_b h hx (E := 1) (k := 1) (by decide) (by decide) (wL_line_1 hS (by omega) (c_line_b (d := d - 1) hP (by omega) v)) (m_line_b (d := d) (by omega) (h.1.C 1 (by decide) (by omega)).1.1 v)
theorem q_knock {d : Nat} {x1 x2 x3 : Int32} {M : MM} {ab sa ru sr li sn dk m c W i T : Nat} {A : AB} {tk : Nat → Nat × Nat} {tx : Nat → Nat} (h : RR M ab sa ru sr li sn dk A m tk c W i T tx) (hx : nx M + 6 < 900000) (hd : 200 ≤ d) : CLl d M 286 241 [.ref 0, .int x1, .int x2, .int x3, .ref 547] [.ref 53, .int x1, .int x2, .int x3] := by
  have hP := h.1.P
  have hS := h.W.1
  by_cases v : inR x1 1 65 ∧ inR x2 0 17 ∧ inR x3 0 2
  · obtain ⟨⟨q, q1, q2, rfl⟩, ⟨r, -, r1, rfl⟩, ⟨w, -, w1, rfl⟩⟩ := v
    exact cl_M h (wL_knock hS hS (by omega) (c_knock (d := d - 1) hP (by omega) q1 q2 r1 w1)) (m_knock (d := d) (by omega) (h.L _).W.1 q1 q2 r1 w1)
  · exact cl_b h hx (E := 1) (k := 1) (by decide) (by decide) (wL_knock_1 hS (by omega) (c_knock_b (d := d - 1) hP (by omega) v)) (m_knock_b (d := d) (by omega) (h.1.C 1 (by decide) (by omega)).1.1 v)
theorem q_eyes {d : Nat} {x1 x2 x3 x4 : Int32} {M : MM} {ab sa ru sr li sn dk m c W i T : Nat} {A : AB} {tk : Nat → Nat × Nat} {tx : Nat → Nat} (h : RR M ab sa ru sr li sn dk A m tk c W i T tx) (hx : nx M + 6 < 900000) (hd : 200 ≤ d) : CLl d M 291 244 [.ref 0, .int x1, .int x2, .int x3, .int x4, .ref 547] [.ref 53, .int x1, .int x2, .int x3, .int x4] := by
  have hP := h.1.P
  have hS := h.W.1
  by_cases v : inR x1 0 4 ∧ inR x2 0 17 ∧ inR x3 0 6 ∧ inR x4 0 2
  · obtain ⟨⟨q, -, q2, rfl⟩, ⟨r, -, r1, rfl⟩, ⟨s, -, s1, rfl⟩, ⟨w, -, w1, rfl⟩⟩ := v
    exact cl_M h (wL_eyes hS hS (by omega) (c_eyes (d := d - 1) hP (by omega) q2 r1 s1 w1)) (m_eyes (d := d) (by omega) (h.L _).W.1 q2 r1 s1 w1)
  · exact cl_b h hx (E := 1) (k := 1) (by decide) (by decide) (wL_eyes_1 hS (by omega) (c_eyes_b (d := d - 1) hP (by omega) v)) (m_eyes_b (d := d) (by omega) (h.1.C 1 (by decide) (by omega)).1.1 v)
theorem q_favourite {d : Nat} {M : MM} {ab sa ru sr li sn dk m c W i T : Nat} {A : AB} {tk : Nat → Nat × Nat} {tx : Nat → Nat} (h : RR M ab sa ru sr li sn dk A m tk c W i T tx) (hx : nx M + 6 < 900000) (hd : 200 ≤ d) : CDd d M 111 223 [.ref 0] [.ref 53] := by
  have hP := h.1.P
  have hS := h.W.1
  exact cd_M h (c_favourite (d := d) hP (by omega)) (m_favourite (d := d) (by omega) h.1.M)
theorem q_missing {d : Nat} {M : MM} {ab sa ru sr li sn dk m c W i T : Nat} {A : AB} {tk : Nat → Nat × Nat} {tx : Nat → Nat} (h : RR M ab sa ru sr li sn dk A m tk c W i T tx) (hx : nx M + 6 < 900000) (hd : 200 ≤ d) : CDd d M 130 217 [.ref 0] [.ref 53] := by
  have hP := h.1.P
  have hS := h.W.1
  exact cd_M h (c_missing (d := d) hP (by omega)) (m_missing (d := d) (by omega) h.1.M h.1.Z.2.2)
theorem q_bestOff {d : Nat} {M : MM} {ab sa ru sr li sn dk m c W i T : Nat} {A : AB} {tk : Nat → Nat × Nat} {tx : Nat → Nat} (h : RR M ab sa ru sr li sn dk A m tk c W i T tx) (hx : nx M + 6 < 900000) (hd : 200 ≤ d) : CDd d M 125 253 [.ref 0] [.ref 53] := by
  have hP := h.1.P
  have hS := h.W.1
  exact cd_M h (c_bestOff (d := d) hP (by omega) h.1.2.2.2.2.1) (m_bestOff (d := d) (by omega) hS h.1.2.2.2.2.1.2.2.1 h.1.2.2.2.2.1.2.1)
