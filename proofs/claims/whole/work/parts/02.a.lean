/-! THE LAYER: a judgement over symbolic states (cells, locals, stack), a row an instruction; contracts all over the same words TB -/
abbrev zGl : Type := va_G × (ClassId × ClassId × ClassId × ClassId) × (Nat → Nat) × (Nat → Nat)
abbrev zty (g : zGl) : List (ClassId × FieldType) := [(g.2.1.1, .int), (g.2.1.2.1, .long), (g.2.1.2.2.1, .boolean), (g.2.1.2.2.2, .object "AlongsideLines$Ship")]
/-- a static row of ints -/
def zTab (C n : String) (N : Nat) (f : List Int32) (A : Nat → Prop) (U : State) (H : Heap) : Prop := ∃ t : Nat, va_Z C n "[I" (.ref t) A U H ∧ va_T .int t N (fun j => .int (f.getD j 0)) A U H
theorem zTab.moved {C n : String} {N : Nat} {f : List Int32} {A : Nat → Prop} {u U : State} {H : Heap} (hvm : u.vm.Alike U.vm) (h : zTab C n N f A u H) : zTab C n N f A U H := by
  obtain ⟨t, h1, h2⟩ := h
  exact ⟨t, h1.moved hvm, h2.moved hvm⟩
theorem zTab.kept {C n : String} {N : Nat} {f : List Int32} {A : Nat → Prop} {U : State} {H H1 : Heap} (h : zTab C n N f A U H) (hq : ∀ a : Nat, a < H.size → ¬ A a → H1[a]? = H[a]?) : zTab C n N f A U H1 := by
  obtain ⟨t, h1, h2⟩ := h
  exact ⟨t, h1.kept hq, h2.kept hq⟩
theorem zTab.narrow {C n : String} {N : Nat} {f : List Int32} {A B : Nat → Prop} {U : State} {H : Heap} (h : zTab C n N f A U H) (hAB : ∀ q, B q → A q) : zTab C n N f B U H := by
  obtain ⟨t, h1, h2⟩ := h
  exact ⟨t, h1.narrow hAB, h2.narrow hAB⟩
def zT_UNTOLD : List Int32 := [0, 9000, 5000, 30, 8, 10, 20, 2, 10, 10, 2, 10, 10]
def zT_PUT_LEAST : List Int32 := [0, 0, -45000, -20000, -20000, -5000, -3, -3, 0]
def zT_PUT_MOST : List Int32 := [9999, 30000, 45000, 20000, 20000, 5000, 3, 3, 99]
def zT_NUMBERS_OF : List Int32 := [2, 2, 2, 2, 1, 3, 1, 1, 1, 3, 1]
def zT_TIMES_MOST : List Int32 := [1, 12, 1, 1, 1, 1, 1, 1, 1, 20, 24]
def zT_FIRST_TOLD : List Int32 := [0, -1, 2, 4, 6, 7, 10, 11, 12, -1, -1]
def zT_LEAST : List Int32 := [0, 0, 0, 0, 1, 0, 500, 1, 0, 0, 0, 0, 0, 0, 0, 0, 0, 0, 0, 0, 0, 1, 0, 0, 0, 0, 0, 0, 0, 0, 0, 0, 0]
def zT_MOST : List Int32 := [9999, 9999, 0, 9999, 999, 0, 9000, 99, 0, 50, 99, 0, 99, 0, 0, 50, 50, 50, 99, 0, 0, 99, 0, 0, 999, 0, 0, 999, 6, 6, 999, 0, 0]
def zT_FIRST_CLAUSE : List Int32 := [0, 9, 10]
def zT_LAST_CLAUSE : List Int32 := [8, 9, 10]
def zTabs : List (String × String × Nat × List Int32) := [(RX4, "UNTOLD", 13, zT_UNTOLD), (RX7, "PUT_LEAST", 9, zT_PUT_LEAST), (RX7, "PUT_MOST", 9, zT_PUT_MOST), (RX5, "NUMBERS_OF", 11, zT_NUMBERS_OF), (RX5, "TIMES_MOST", 11, zT_TIMES_MOST), (RX5, "FIRST_TOLD", 11, zT_FIRST_TOLD), (RX5, "LEAST", 33, zT_LEAST), (RX5, "MOST", 33, zT_MOST), (RX5, "FIRST_CLAUSE", 3, zT_FIRST_CLAUSE), (RX5, "LAST_CLAUSE", 3, zT_LAST_CLAUSE)]
/-- the words of the texts, by their bytes, as 'wordOf' has them; their numbers in the pool -/
def zStr : List (Nat × String × List Int32) := [
  (151, "gap", [103, 97, 112]), (153, "post", [112, 111, 115, 116]), (155, "ship", [115, 104, 105, 112]), (157, "screw", [115, 99, 114, 101, 119]), (159, "wheel", [119, 104, 101, 101, 108]), (161, "slow", [115, 108, 111, 119]), (163, "wind", [119, 105, 110, 100]), (165, "give", [103, 105, 118, 101]), (167, "fender", [102, 101, 110, 100, 101, 114]), (169, "at", [97, 116]), (170, "hour", [104, 111, 117, 114])]
def zLen : List Nat := [3, 4, 4, 5, 5, 4, 4, 4, 6, 2, 4]
def zByt : List (List Int32) := [[103, 97, 112], [112, 111, 115, 116], [115, 104, 105, 112], [115, 99, 114, 101, 119], [119, 104, 101, 101, 108], [115, 108, 111, 119], [119, 105, 110, 100], [103, 105, 118, 101], [102, 101, 110, 100, 101, 114], [97, 116], [104, 111, 117, 114]]
/-- what is there beside the cells: private links, static rows, the words -/
def zZ (g : zGl) (A : Nat → Prop) (U : State) (H : Heap) : Prop :=
  (∀ w ∈ NB, va_Nw w U) ∧ (∀ q ∈ zTabs, zTab q.1 q.2.1 q.2.2.1 q.2.2.2 A U H) ∧ (∀ i : Nat, ∀ q, zStr[i]? = some q → vk_R RX5 q.1 q.2.1 (g.2.2.1 i) U) ∧ vk_S 11 zLen zByt g.2.2.1 g.2.2.2 A U H ∧ va_Z "java/lang/String" "COMPACT_STRINGS" "Z" (.int 1) A U H ∧ va_Zq "jdk/internal/util/Preconditions" "SIOOBE_FORMATTER" "Ljava/util/function/BiFunction;" A U H ∧ va_AO RX7 U
theorem zZ.warm {g : zGl} {A : Nat → Prop} {s U : State} {H : Heap} (hW : s.WarmedH U.vm) (h : zZ g A s H) : zZ g A U H := by
  obtain ⟨h1, h2, h3, h4, h5, h6, h7⟩ := h
  refine ⟨fun w hw => ?_, fun q hq => (h2 q hq).moved hW.alike, fun i q hi => (h3 i q hi).warm hW, h4.moved hW.alike, h5.moved hW.alike, h6.moved hW.alike, h7.moved hW.alike⟩
  obtain ⟨a, i, x, hh, rfl⟩ := NB_nest w hw
  exact va_Nw.warmM hW (h1 _ hw)
theorem zZ.same {g : zGl} {A : Nat → Prop} {u U : State} {H : Heap} (hv : u.vm = U.vm) (h : zZ g A u H) : zZ g A U H := by
  obtain ⟨h1, h2, h3, h4, h5, h6, h7⟩ := h
  have hA : u.vm.Alike U.vm := by rw [hv]; exact Vm.Alike.refl _
  refine ⟨fun w hw => ?_, fun q hq => (h2 q hq).moved hA, fun i q hi => (h3 i q hi).same hv.symm, h4.moved hA, h5.moved hA, h6.moved hA, h7.moved hA⟩
  obtain ⟨a, i, x, hh, rfl⟩ := NB_nest w hw
  exact va_Nw.same rfl hv (h1 _ hw)
theorem zZ.kept {g : zGl} {A : Nat → Prop} {U : State} {H H1 : Heap} (h : zZ g A U H) (hq : ∀ a : Nat, a < H.size → ¬ A a → H1[a]? = H[a]?) : zZ g A U H1 := by
  obtain ⟨h1, h2, h3, h4, h5, h6, h7⟩ := h
  exact ⟨h1, fun q hq' => (h2 q hq').kept hq, h3, h4.kept hq, h5.kept hq, h6.kept hq, h7⟩
theorem zZ.narrow {g : zGl} {A B : Nat → Prop} {U : State} {H : Heap} (h : zZ g A U H) (hAB : ∀ q, B q → A q) : zZ g B U H := by
  obtain ⟨h1, h2, h3, h4, h5, h6, h7⟩ := h
  exact ⟨h1, fun q hq' => (h2 q hq').narrow hAB, h3, h4.narrow hAB, h5.narrow hAB, h6.narrow hAB, h7⟩
