/-! ===== length and charAt ===== -/
theorem sc_byte1 : ∀ t ∈ sBy, ∀ b ∈ t, ((b &&& 255).toUInt32 % 65536).toInt32 = b ∧ narrow .char (.int b) = .int b := by decide +kernel
theorem sc_byte (j k : Nat) : (((((sBy.getD j []).getD k 0) &&& (255 : Int32)).toUInt32 % 65536).toInt32 = (sBy.getD j []).getD k 0) ∧ narrow .char (.int ((sBy.getD j []).getD k 0)) = .int ((sBy.getD j []).getD k 0) := by
  have hz : (((0 : Int32) &&& 255).toUInt32 % 65536).toInt32 = 0 ∧ narrow .char (.int 0) = .int 0 := by decide +kernel
  by_cases hj : j < sBy.length
  · have e1 : sBy.getD j [] = sBy[j] := by simp [hj]
    rw [e1]
    by_cases hk : k < sBy[j].length
    · have e2 : sBy[j].getD k 0 = sBy[j][k] := by simp [hk]
      rw [e2]
      exact sc_byte1 _ (List.getElem_mem hj) _ (List.getElem_mem hk)
    · have e2 : sBy[j].getD k 0 = 0 := by simp [Nat.not_lt.mp hk]
      rw [e2]; exact hz
  · have e1 : sBy.getD j [] = [] := by simp [Nat.not_lt.mp hj]
    rw [e1]; exact hz
theorem sLen_le (j : Nat) : sLen.getD j 0 ≤ 16 := by
  have h1 : ∀ x ∈ sLen, x ≤ 16 := by decide +kernel
  by_cases hj : j < sLen.length
  · have e1 : sLen.getD j 0 = sLen[j] := by simp [hj]
    rw [e1]; exact h1 _ (List.getElem_mem hj)
  · have e1 : sLen.getD j 0 = 0 := by simp [Nat.not_lt.mp hj]
    rw [e1]; omega
theorem ofNat_toInt {n : Nat} (h : n < 2 ^ 31) : (Int32.ofNat n).toInt = (n : Int) := by
  rw [Int32.toInt_ofNat']
  have : ((n : Int).bmod (2 ^ 32)) = n := by rw [Int.bmod_def]; omega
  exact this
theorem lt_len {i : Int32} {n : Nat} (hn : n < 2 ^ 31) (h1 : ¬ i < 0) (h2 : ¬ n ≤ i.toNatClampNeg) : i < Int32.ofNat n := by
  rw [Int32.lt_iff_toInt_lt, ofNat_toInt hn]
  have := nnI i h1
  omega
section STR3
variable {l : Launch} {G : GG} {d j : Nat} {h : AH}
theorem sc_at1 {i : Int32} (hj : j < 24) (hin : ¬ (i < 0 ∨ sLen.getD j 0 ≤ i.toNatClampNeg)) : SCt l G yJ1_charAt_3b067 cJ1_charAt_3b067 2 (some .char) (d + 2) [.ref (gV G j), .int i] h (some (.int ((sBy.getD j []).getD i.toNatClampNeg 0))) := by
  have hlen := sLen_le j
  refine vx_ofW (by decide +kernel) rfl ?_
  intro p e s m args below meth c s₁ B hml htab hv
  obtain ⟨rfl, hr0, hB⟩ := hv
  have hts0 := atoms_spec (ws := Cond.code yJ1_charAt_3b067 cJ1_charAt_3b067 2 (some .char) :: gw) B.pre
  have hts : ∀ w ∈ gw, w.before _ s = true := fun w hw => hts0 w (List.mem_cons_of_mem _ hw)
  have hown : s.vm.findClass "java/lang/StringLatin1" = some m.cls := findClass_of_methodNamed B.named
  have hS := hr0.self hr0 (locs := []) (fun z hz => nomatch hz)
  have C : CY G p s m _ c cJ1_charAt_3b067 "java/lang/StringLatin1" := ⟨B.exec, B.bytes, hown, hts, hB⟩
  have hK := (hB.2.2.2.2.2.1.kept hr0.kept).1 j hj
  rw [lg_entry_eq]
  refine lv_iload_n B.exec B.bytes (k := 1) (i := 1) (x := i) (by decide +kernel) rfl rfl ?_
  refine lv_aload_n B.exec B.bytes (k := 0) (i := 0) (by decide +kernel) rfl (x := gV G j) rfl ?_
  refine va_tlen B.exec B.bytes hK.2.2.2 hS rfl (by decide +kernel) ?_
  refine sc_callS (n := 2) (d := d + 1) (as := [.int i, .int (Int32.ofNat (sLen.getD j 0))]) (rest := []) C hml rfl hr0 (fun z hz => nomatch hz) (sc_ci (d := d) (fun z => hin (Or.inl z)) (lt_len (by omega) (fun z => hin (Or.inl z)) (fun z => hin (Or.inr z)))) jw_s9 jw_s10 jw_s11 jw_s12 (by decide +kernel) (by decide) rfl (by decide) (by decide +kernel) (fun H' locs' hr' hl' => ?_)
  refine lv_aload_n B.exec B.bytes (k := 0) (i := 0) (by decide +kernel) rfl (x := gV G j) rfl ?_
  refine lv_iload_n B.exec B.bytes (k := 1) (i := 1) (x := i) (by decide +kernel) rfl rfl ?_
  refine va_tb B.exec B.bytes hK.2.2.2 (hr0.self hr' hl') hin rfl (by decide +kernel) ?_
  refine lv_sipush (n := 255) B.exec B.bytes (by decide +kernel) (v := 255) (by decide) ?_
  refine lv_iand B.exec B.bytes (by decide +kernel) ?_
  refine lv_i2c B.exec B.bytes (by decide +kernel) (sc_byte j _).1 ?_
  exact vx_ret (W.zret B.exec B.bytes B.returns (sc_byte j _).2 (fun t ht _ => ⟨rfl, by rw [ht]; exact hr'⟩) hl' (by decide +kernel))
theorem shr0 (x : Int32) : x >>> ((0 : Int32) &&& 31) = x := by
  have : (0 : Int32) &&& 31 = 0 := by decide
  rw [this]
  exact Int32.shiftRight_zero
theorem sc_length (hj : j < 24) : MC l G (yJ0_length_8abf5, cJ0_length_8abf5, 1, some .int) (d + 1) [.ref (1500000 + j)] h (.inl (some (.int (Int32.ofNat (sLen.getD j 0))))) h := by
  unfold MC
  rw [cwd_none (hh_none (by decide))]
  refine vx_ofW (by decide +kernel) rfl ?_
  intro p e s m args below meth c s₁ B hml htab hv
  obtain ⟨rfl, hr0, hB⟩ := hv
  have hts0 := atoms_spec (ws := Cond.code yJ0_length_8abf5 cJ0_length_8abf5 1 (some .int) :: gw) B.pre
  have hts : ∀ w ∈ gw, w.before _ s = true := fun w hw => hts0 w (List.mem_cons_of_mem _ hw)
  have hown : s.vm.findClass "java/lang/String" = some m.cls := findClass_of_methodNamed B.named
  have hS := hr0.self hr0 (locs := []) (fun z hz => nomatch hz)
  have C : CY G p s m _ c cJ0_length_8abf5 "java/lang/String" := ⟨B.exec, B.bytes, hown, hts, hB⟩
  have hK := (hB.2.2.2.2.2.1.kept hr0.kept).1 j hj
  have hcell : ∃ cell : Cell, s.heap[gr G (1500000 + j)]? = some cell ∧ cell.vm.isStatics = false ∧ s.vm.findClass "java/lang/String" = some cell.cls := vk_recv (adK := fun j => gr G (1500000 + j)) (hB.2.2.2.2.2.1.kept hr0.kept) hj hS
  have hrm : (headSpec (Cond.code yJ0_length_8abf5 cJ0_length_8abf5 1 (some .int) :: gw) (rm (d + 1) (h.2.1 - h.2.1) (h.2.2 - h.2.2))).room = rm (d + 1) 0 0 := by rw [Nat.sub_self, Nat.sub_self]; rfl
  rw [hrm, lg_entry_eq]
  refine lv_aload_n B.exec B.bytes (k := 0) (i := 0) (by decide +kernel) rfl (x := gr G (1500000 + j)) rfl ?_
  refine vk_getf B.exec B.bytes hK.2.2.1 hS hown (hts _ jw_s3) (fun _ z => z) (by decide +kernel) ?_
  refine va_tlen B.exec B.bytes hK.2.2.2 hS rfl (by decide +kernel) ?_
  refine lv_aload_n B.exec B.bytes (k := 0) (i := 0) (by decide +kernel) rfl (x := gr G (1500000 + j)) rfl ?_
  refine sc_callV (n := 0) (d := d) (as := []) (rest := [.int (Int32.ofNat (sLen.getD j 0))]) C hml rfl hr0 (fun z hz => nomatch hz) (sc_coder hj) jw_s17 jw_s10 jw_s18 jw_s19 jw_s20 hcell (by decide +kernel) (by decide) rfl (by show 1 + 0 ≤ 8; omega) (by decide +kernel) (fun H' locs' hr' hl' => ?_)
  refine lv_ishr B.exec B.bytes (by decide +kernel) ?_
  rw [shr0, Nat.sub_self, Nat.sub_self]
  exact vx_ret (W.iret B.exec B.bytes B.returns (fun t ht _ => ⟨⟨_, rfl, rfl⟩, by rw [ht]; exact hr'⟩) hl' (by decide +kernel))
theorem sc_charAt {i : Int32} (hj : j < 24) (hin : ¬ (i < 0 ∨ sLen.getD j 0 ≤ i.toNatClampNeg)) : MC l G (yJ0_charAt_5068e, cJ0_charAt_5068e, 2, some .char) (d + 3) [.ref (1500000 + j), .int i] h (.inl (some (.int ((sBy.getD j []).getD i.toNatClampNeg 0)))) h := by
  unfold MC
  rw [cwd_none (hh_none (by decide))]
  refine vx_ofW (by decide +kernel) rfl ?_
  intro p e s m args below meth c s₁ B hml htab hv
  obtain ⟨rfl, hr0, hB⟩ := hv
  have hts0 := atoms_spec (ws := Cond.code yJ0_charAt_5068e cJ0_charAt_5068e 2 (some .char) :: gw) B.pre
  have hts : ∀ w ∈ gw, w.before _ s = true := fun w hw => hts0 w (List.mem_cons_of_mem _ hw)
  have hown : s.vm.findClass "java/lang/String" = some m.cls := findClass_of_methodNamed B.named
  have hS := hr0.self hr0 (locs := []) (fun z hz => nomatch hz)
  have C : CY G p s m _ c cJ0_charAt_5068e "java/lang/String" := ⟨B.exec, B.bytes, hown, hts, hB⟩
  have hK := (hB.2.2.2.2.2.1.kept hr0.kept).1 j hj
  have hcell : ∃ cell : Cell, s.heap[gr G (1500000 + j)]? = some cell ∧ cell.vm.isStatics = false ∧ s.vm.findClass "java/lang/String" = some cell.cls := vk_recv (adK := fun j => gr G (1500000 + j)) (hB.2.2.2.2.2.1.kept hr0.kept) hj hS
  have hrm : (headSpec (Cond.code yJ0_charAt_5068e cJ0_charAt_5068e 2 (some .char) :: gw) (rm (d + 3) (h.2.1 - h.2.1) (h.2.2 - h.2.2))).room = rm (d + 3) 0 0 := by rw [Nat.sub_self, Nat.sub_self]; rfl
  rw [hrm, lg_entry_eq]
  refine lv_aload_n B.exec B.bytes (k := 0) (i := 0) (by decide +kernel) rfl (x := gr G (1500000 + j)) rfl ?_
  refine sc_callV (n := 0) (d := d + 2) (as := []) (rest := []) C hml rfl hr0 (fun z hz => nomatch hz) (sc_latin hj) jw_s21 jw_s10 jw_s22 jw_s23 jw_s24 hcell (by decide +kernel) (by decide) rfl (by decide) (by decide +kernel) (fun H' locs' hr' hl' => ?_)
  refine lv_if_eq B.exec B.bytes (off := 12) (tgt := 16) (by decide +kernel) (by decide) (fun z => absurd z (by decide)) (fun _ => ?_)
  refine lv_aload_n B.exec B.bytes (k := 0) (i := 0) (by decide +kernel) rfl (x := gr G (1500000 + j)) rfl ?_
  refine vk_getf B.exec B.bytes hK.2.2.1 (hr0.self hr' hl') hown (hts _ jw_s3) (fun _ z => z) (by decide +kernel) ?_
  refine lv_iload_n B.exec B.bytes (k := 1) (i := 1) (x := i) (by decide +kernel) rfl rfl ?_
  refine sc_callS (n := 2) (d := d + 2) (as := [.ref (gV G j), .int i]) (rest := []) C hml rfl hr' hl' (sc_at1 (d := d) hj hin) jw_s13 jw_s14 jw_s15 jw_s16 (by decide +kernel) (by decide) rfl (by decide) (by decide +kernel) (fun H2 locs2 hr2 hl2 => ?_)
  rw [Nat.sub_self, Nat.sub_self]
  exact vx_ret (W.zret B.exec B.bytes B.returns (sc_byte j _).2 (fun t ht _ => ⟨⟨_, rfl, rfl⟩, by rw [ht]; exact hr2⟩) hl2 (by decide +kernel))
end STR3
