/-! ===== what is known of the start: classes, texts, statics, nest mates ===== -/
def cn (o : Nat) : String := match o with
  | 0 => RX0
  | 1 => RX1
  | 2 => RX2
  | 3 => RX3
  | 4 => RX4
  | 5 => RX5
  | 6 => RX6
  | 7 => RX7
  | 8 => RX8
  | 9 => RX9
  | 10 => RX10
  | 11 => RL
  | 12 => RJ6
  | _ => RJ9
def isNest (w : Cond) : Bool := match w with
  | .fieldLinkNest .. => true
  | .methodLinkNest .. => true
  | .declares _ => true
  | .castable .. => true
  | _ => false
def nestW : List Cond := lw_tbl.filter isNest
/-- the texts: 0 to 20 words, then what is thrown -/
def sTx : List String := ["picture", "wish", "size", "tire", "bin", "worth", "sharp", "people", "day", "tired", "looks", "same", "star", "least", "most", "look", "throw", "save", "rest", "evening", "again", "no such argument", "no such picture", "no such person"]
def sBy : List (List Int32) := [[112, 105, 99, 116, 117, 114, 101], [119, 105, 115, 104], [115, 105, 122, 101], [116, 105, 114, 101], [98, 105, 110], [119, 111, 114, 116, 104], [115, 104, 97, 114, 112], [112, 101, 111, 112, 108, 101], [100, 97, 121], [116, 105, 114, 101, 100], [108, 111, 111, 107, 115], [115, 97, 109, 101], [115, 116, 97, 114], [108, 101, 97, 115, 116], [109, 111, 115, 116], [108, 111, 111, 107], [116, 104, 114, 111, 119], [115, 97, 118, 101], [114, 101, 115, 116], [101, 118, 101, 110, 105, 110, 103], [97, 103, 97, 105, 110], [110, 111, 32, 115, 117, 99, 104, 32, 97, 114, 103, 117, 109, 101, 110, 116], [110, 111, 32, 115, 117, 99, 104, 32, 112, 105, 99, 116, 117, 114, 101], [110, 111, 32, 115, 117, 99, 104, 32, 112, 101, 114, 115, 111, 110]]
def sLen : List Nat := sBy.map List.length
/-- where a text stands in a class: class, entry, text -/
def sAt : List (Nat × Nat × Nat) := [(9, 376, 21), (9, 383, 22), (9, 386, 23), (0, 84, 0), (0, 90, 1), (0, 92, 2), (0, 94, 3), (0, 95, 4), (7, 99, 5), (7, 101, 6), (7, 103, 7), (7, 105, 8), (7, 107, 9), (7, 109, 10), (7, 111, 11), (7, 113, 12), (7, 76, 13), (7, 86, 14), (6, 73, 15), (6, 79, 12), (6, 81, 16), (6, 83, 17), (6, 85, 18), (6, 87, 19), (6, 89, 20)]
abbrev gF (G : GG) : Nat → Prop := fun q => gb G ≤ q
def Bas (G : GG) (U : State) : Prop :=
  va_K (gD G) vwCl [(gA G 0, .int), (gA G 1, .long), (gA G 2, .byte), (gA G 3, .array .int), (gA G 4, .object RX3)] U ∧
  va_X (gr G 2000000) (gL G) (gX G) U (gH G) ∧ va_AO RX3 U ∧ va_AOA .int U ∧ (∀ w ∈ nestW, va_Nw w U) ∧
  vk_S 24 sLen sBy (fun j => gr G (1500000 + j)) (gV G) (gF G) U (gH G) ∧
  (∀ q ∈ sAt, vk_R (cn q.1) q.2.1 (sTx.getD q.2.2 "") (gr G (1500000 + q.2.2)) U) ∧
  vx_Zq Bundle.tN "UNASSIGNED_STACK" Bundle.steD (gF G) U (gH G) ∧ vx_Zq Bundle.tN "SUPPRESSED_SENTINEL" Bundle.listD (gF G) U (gH G) ∧
  va_Z "java/lang/String" "COMPACT_STRINGS" "Z" (.int 1) (gF G) U (gH G) ∧
  va_Zq "jdk/internal/util/Preconditions" "SIOOBE_FORMATTER" "Ljava/util/function/BiFunction;" (gF G) U (gH G) ∧
  va_Nc "java/lang/IllegalArgumentException" "java/util/NoSuchElementException" U
theorem va_AOA.moved {t : FieldType} {u U : State} (hvm : u.vm.Alike U.vm) (h : va_AOA t u) : va_AOA t U := by
  have h2 : (Cond.arrayOver (.array t)).before #[] (u.setVm U.vm) = true := by rw [Cond.arrayOver_setVmC hvm]; exact h
  unfold va_AOA
  unfold Cond.before Cond.holds at h2 ⊢
  simp only [Cond.value] at h2 ⊢
  exact h2
theorem nest_warm {w : Cond} {s U : State} (hW : s.WarmedH U.vm) (hw : w ∈ nestW) (h : va_Nw w s) : va_Nw w U := by
  have hn := (List.mem_filter.mp hw).2
  cases w <;> first | exact va_Nw.warmF hW h | exact va_Nw.warmM hW h | exact va_Nw.warmD hW h | exact va_Nw.warmC hW h | cases hn
theorem Bas.warm {G : GG} {s U : State} (hW : s.WarmedH U.vm) (h : Bas G s) : Bas G U := by
  obtain ⟨h1, h2, h3, h4, h5, h6, h7, h8, h9, h10, h11, h12⟩ := h
  exact ⟨va_K.moved hW.alike h1, va_X.moved hW.alike h2, va_AO.moved hW.alike h3, va_AOA.moved hW.alike h4, fun w hw => nest_warm hW hw (h5 w hw), vk_S.moved hW.alike h6, fun q hq => vk_R.warm hW (h7 q hq), vx_Zq.moved hW.alike h8, vx_Zq.moved hW.alike h9, va_Z.moved hW.alike h10, va_Zq.moved hW.alike h11, va_Nc.moved hW.alike h12⟩
/-- what stands while a method runs -/
def CX (G : GG) (p : Program) (s : State) (m : MethodId) (args : Array Value) (c : Code) (cc : ByteArray) (o : Nat) : Prop :=
  p.tables.exec = Jvm.exec ∧ c.code = cc ∧ s.vm.findClass (cn o) = some m.cls ∧ (∀ w ∈ gw, w.before args s = true) ∧ Bas G s ∧ GOK G
