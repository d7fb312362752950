/-! ===== the throws of the class ===== -/
def thW (ic : Nat) (X : String) (j : Nat) (b : ByteArray) : List Cond := (vyA RX9 ic X "java/lang/RuntimeException" j b ["java/lang/Exception"]).filter vx_no
def inT (w : Cond) : Bool := decide (w ∈ lw_tbl) && (goodWord w || isNest w)
theorem th_w1 : ∀ w ∈ thW 378 "java/lang/IllegalArgumentException" 7 Bundle.six, inT w = true := by decide +kernel
theorem th_w0 : ∀ w ∈ thW 385 "java/util/NoSuchElementException" 13 prog_28_method_4_code, inT w = true := by decide +kernel
theorem th_g1 : ∀ w ∈ Cond.classLink RX9 374 "java/lang/IllegalArgumentException" :: Cond.initialized "java/lang/IllegalArgumentException" :: thW 378 "java/lang/IllegalArgumentException" 7 Bundle.six, vx_ot w = true := by decide +kernel
theorem th_g0 : ∀ w ∈ Cond.classLink RX9 381 "java/util/NoSuchElementException" :: Cond.initialized "java/util/NoSuchElementException" :: thW 385 "java/util/NoSuchElementException" 13 prog_28_method_4_code, vx_ot w = true := by decide +kernel
theorem th_k1 : Cond.classLink RX9 374 "java/lang/IllegalArgumentException" ∈ gw ∧ Cond.initialized "java/lang/IllegalArgumentException" ∈ gw := ⟨gw_in (by decide +kernel) rfl, gw_in (by decide +kernel) rfl⟩
theorem th_k0 : Cond.classLink RX9 381 "java/util/NoSuchElementException" ∈ gw ∧ Cond.initialized "java/util/NoSuchElementException" ∈ gw := ⟨gw_in (by decide +kernel) rfl, gw_in (by decide +kernel) rfl⟩
theorem inT_at {G : GG} {s : State} {args : Array Value} {w : Cond} (hts : ∀ w ∈ gw, w.before args s = true) (hB : Bas G s) (h : inT w = true) : w.before args s = true := by
  simp only [inT, Bool.and_eq_true, Bool.or_eq_true, decide_eq_true_eq] at h
  obtain ⟨h1, h2 | h2⟩ := h
  · exact hts w (List.mem_filter.mpr ⟨h1, h2⟩)
  · have h3 : w.before #[] s = true := hB.2.2.2.2.1 w (List.mem_filter.mpr ⟨h1, h2⟩)
    cases w <;> first | exact h3 | cases h2
theorem th_b1 : decode Bundle.six 0 = .ok (.aload_n 0, 1) ∧ decode Bundle.six 1 = .ok (.aload_n 1, 1) ∧ decode Bundle.six 2 = .ok (.invokespecial 7, 3) ∧ decode Bundle.six 5 = .ok (.return_, 1) := by decide +kernel
theorem th_b0 : decode prog_28_method_4_code 0 = .ok (.aload_n 0, 1) ∧ decode prog_28_method_4_code 1 = .ok (.aload_n 1, 1) ∧ decode prog_28_method_4_code 2 = .ok (.invokespecial 13, 3) ∧ decode prog_28_method_4_code 5 = .ok (.return_, 1) := by decide +kernel
theorem th_fit : Bundle.fit "java/lang/IllegalArgumentException" = true ∧ Bundle.fit "java/util/NoSuchElementException" = true ∧ Bundle.fit "java/lang/RuntimeException" = true ∧ ∀ n ∈ ["java/lang/Exception"], Bundle.fit n = true := by decide +kernel
set_option maxHeartbeats 4000000 in
theorem throwR {l : Launch} (hst : l.stackTraces = false) (G : GG) : ThrowR l G := by
  intro p e R s m args below meth c H locs cells slots cc pc ls o ik is ic E mc ms Qc XC C hth hS hk hsz d0 d3 d4 d7 d10 hout hRf hRl hRc hRs hlk hx hl hmc hms
  obtain ⟨hexec, hb, hown, hts, hB, hG⟩ := C
  have hU := hB.2.2.2.2.2.2.2.1.kept hk
  have hN := hB.2.2.2.2.2.2.2.2.1.kept hk
  have hst9 := hB.2.2.2.2.2.2.1
  have fin : ∀ (X tx : String) (j sa : Nat) (b : ByteArray), o = 9 → X = exn E → Bundle.fit X = true → (decode b 0 = .ok (.aload_n 0, 1) ∧ decode b 1 = .ok (.aload_n 1, 1) ∧ decode b 2 = .ok (.invokespecial j, 3) ∧ decode b 5 = .ok (.return_, 1)) → vk_R RX9 is tx sa s → Cond.classLink RX9 ik X ∈ gw ∧ Cond.initialized X ∈ gw → (∀ w ∈ thW ic X j b, inT w = true) → (∀ w ∈ Cond.classLink RX9 ik X :: Cond.initialized X :: thW ic X j b, vx_ot w = true) →
      W p l e R s m args below meth c H locs cells slots (vx_MQ below Qc XC args s mc ms (gF G)) (F0 m pc ls []) := by
    intro X tx j sa b ho hX hf hbb hR hkk hw hg
    subst ho
    subst hX
    exact vy_throwW (rest := []) (own := RX9) (text := tx) (sa := sa) (sup := "java/lang/RuntimeException") (names := ["java/lang/Exception"]) (j := j) (bytes := b) hexec hb hst hown hf th_fit.2.2.1 hbb.1 hbb.2.1 hbb.2.2.1 hbb.2.2.2 th_fit.2.2.2 (hts _ hkk.1) (hts _ hkk.2) hR (fun w h9 => inT_at hts hB (hw w h9)) hg hU hN hS hsz d0 d3 d4 d7 d10
      (fun x h9 => (hout x h9).elim) (by show 1 + 4 < R.frames; omega) (by show 0 + (13 * (1 + 2) + 43) ≤ R.locals; omega) hRc hRs hlk hx hl hmc hms
  unfold thT at hth
  simp only [List.mem_cons, Prod.mk.injEq, List.not_mem_nil, or_false] at hth
  rcases hth with ⟨h1, rfl, rfl, rfl, rfl⟩ | ⟨h1, rfl, rfl, rfl, rfl⟩ | ⟨h1, rfl, rfl, rfl, rfl⟩
  · exact fin _ "no such argument" 7 _ Bundle.six h1 rfl th_fit.1 th_b1 (hst9 (9, 376, 21) (by decide)) th_k1 th_w1 th_g1
  · exact fin _ "no such picture" 13 _ prog_28_method_4_code h1 rfl th_fit.2.1 th_b0 (hst9 (9, 383, 22) (by decide)) th_k0 th_w0 th_g0
  · exact fin _ "no such person" 13 _ prog_28_method_4_code h1 rfl th_fit.2.1 th_b0 (hst9 (9, 386, 23) (by decide)) th_k0 th_w0 th_g0
theorem jsOK {l : Launch} (hst : l.stackTraces = false) (G : GG) : JS l G := by
  refine ⟨throwR hst G, fun d hd => ⟨fun j h hj => ?_, fun j i h hj hin => ?_⟩⟩
  · have := sc_length (l := l) (G := G) (d := d - 1) (h := h) hj
    rwa [show d - 1 + 1 = d by omega] at this
  · have := sc_charAt (l := l) (G := G) (d := d - 3) (h := h) hj hin
    rwa [show d - 3 + 3 = d by omega] at this
