/-! THE JUDGEMENT -/
abbrev zFx : Type := Program × Launch × Env × Room × State × MethodId × Array Value × List Frame × Method × Code × zGl × (Nat → Prop) × (State → Prop)
abbrev z_p (x : zFx) : Program := x.1
abbrev z_l (x : zFx) : Launch := x.2.1
abbrev z_e (x : zFx) : Env := x.2.2.1
abbrev z_R (x : zFx) : Room := x.2.2.2.1
abbrev z_s (x : zFx) : State := x.2.2.2.2.1
abbrev z_m (x : zFx) : MethodId := x.2.2.2.2.2.1
abbrev z_a (x : zFx) : Array Value := x.2.2.2.2.2.2.1
abbrev z_b (x : zFx) : List Frame := x.2.2.2.2.2.2.2.1
abbrev z_me (x : zFx) : Method := x.2.2.2.2.2.2.2.2.1
abbrev z_c (x : zFx) : Code := x.2.2.2.2.2.2.2.2.2.1
abbrev z_g (x : zFx) : zGl := x.2.2.2.2.2.2.2.2.2.2.1
abbrev z_A (x : zFx) : Nat → Prop := x.2.2.2.2.2.2.2.2.2.2.2.1
abbrev z_Q (x : zFx) : State → Prop := x.2.2.2.2.2.2.2.2.2.2.2.2
/-- from every machine state that looks so: its end is reached -/
def vV (x : zFx) (nL ca sl : Nat) (ws : va_W) (pc : Nat) (lv : List (Nat × Value)) (st : List Value) : Prop :=
  ∀ (H : Heap) (locs : List Loc) (ls : Array Slot), va_P (z_g x).1 vwCl ws H → va_D (z_A x) ws → va_S (z_A x) (z_s x).heap H locs → lv_has ls nL lv → W (z_p x) (z_l x) (z_e x) (z_R x) (z_s x) (z_m x) (z_a x) (z_b x) (z_me x) (z_c x) H locs ca sl (z_Q x) (F0 (z_m x) pc ls st)
/-- what is fixed in a method: the machine, its code, the words, the tables, what is beside the cells -/
def zC (x : zFx) (cc : ByteArray) (own : String) (nL : Nat) (rm : Room) : Prop :=
  z_R x = rm ∧ (z_p x).tables.exec = Jvm.exec ∧ (z_c x).code = cc ∧ (z_c x).maxLocals = nL ∧ (z_s x).vm.findClass own = some (z_m x).cls ∧ (∀ w ∈ TB, w.before (z_a x) (z_s x) = true) ∧ va_K (z_g x).1 vwCl (zty (z_g x)) (z_s x) ∧ (∀ q, (z_s x).heap.size ≤ q → z_A x q) ∧ zZ (z_g x) (z_A x) (z_s x) (z_s x).heap
theorem zC.ex {x cc own nL rm} (C : zC x cc own nL rm) : (z_p x).tables.exec = Jvm.exec := C.2.1
theorem zC.b {x cc own nL rm} (C : zC x cc own nL rm) : (z_c x).code = cc := C.2.2.1
theorem zC.ml {x cc own nL rm} (C : zC x cc own nL rm) : (z_c x).maxLocals = nL := C.2.2.2.1
theorem zC.own {x cc own nL rm} (C : zC x cc own nL rm) : (z_s x).vm.findClass own = some (z_m x).cls := C.2.2.2.2.1
theorem zC.ts {x cc own nL rm} (C : zC x cc own nL rm) : ∀ w ∈ TB, w.before (z_a x) (z_s x) = true := C.2.2.2.2.2.1
theorem zC.K {x cc own nL rm} (C : zC x cc own nL rm) : va_K (z_g x).1 vwCl (zty (z_g x)) (z_s x) := C.2.2.2.2.2.2.1
theorem zC.A {x cc own nL rm} (C : zC x cc own nL rm) : ∀ q, (z_s x).heap.size ≤ q → z_A x q := C.2.2.2.2.2.2.2.1
theorem zC.Z {x cc own nL rm} (C : zC x cc own nL rm) : zZ (z_g x) (z_A x) (z_s x) (z_s x).heap := C.2.2.2.2.2.2.2.2
theorem zC.fix {x cc own nL rm} (C : zC x cc own nL rm) : CallFix (z_p x) (z_m x) (z_c x) cc nL (z_s x) (z_a x) TB own := ⟨C.ex, C.b, C.ml, C.own, C.ts⟩
theorem zC.R {x cc own nL rm} (C : zC x cc own nL rm) : z_R x = rm := C.1
/-- an instruction of n bytes at pc, the next at pc' -/
def zd (n : Nat) (cc : ByteArray) (pc pc' : Nat) (i : Instr) : Prop := decode cc pc = .ok (i, n) ∧ pc + n = pc'
/-- a conditional jump at pc: next pc', target tgt -/
def zdi (cc : ByteArray) (pc pc' tgt : Nat) (f : Int → Instr) : Prop := ∃ off : Int, decode cc pc = .ok (f off, 3) ∧ pc + 3 = pc' ∧ (pc : Int) + off = (tgt : Int)
theorem zlc_eq (u v : Int64) : lg_cmp u v = 0 ↔ u = v := by
  unfold lg_cmp
  simp only [gt_iff_lt, Int64.lt_iff_toInt_lt, Int64.le_iff_toInt_le, ← Int64.toInt_inj, Int32.lt_iff_toInt_lt, Int32.le_iff_toInt_le, ← Int32.toInt_inj]
  have e1 : (1 : Int32).toInt = 1 := by decide
  have e0 : (0 : Int32).toInt = 0 := by decide
  have em : (-1 : Int32).toInt = -1 := by decide
  split
  · simp only [e1, e0]; omega
  · split
    · simp only [e0]; (constructor <;> intro h9 <;> first | omega | trivial)
    · simp only [em, e0]; omega
theorem zlc_lt (u v : Int64) : lg_cmp u v < 0 ↔ u < v := by
  unfold lg_cmp
  simp only [gt_iff_lt, Int64.lt_iff_toInt_lt, Int64.le_iff_toInt_le, ← Int64.toInt_inj, Int32.lt_iff_toInt_lt, Int32.le_iff_toInt_le, ← Int32.toInt_inj]
  have e1 : (1 : Int32).toInt = 1 := by decide
  have e0 : (0 : Int32).toInt = 0 := by decide
  have em : (-1 : Int32).toInt = -1 := by decide
  split
  · simp only [e1, e0]; omega
  · split
    · simp only [e0]; (constructor <;> intro h9 <;> first | omega | trivial)
    · simp only [em, e0]; omega
theorem zlc_ge (u v : Int64) : 0 ≤ lg_cmp u v ↔ v ≤ u := by
  unfold lg_cmp
  simp only [gt_iff_lt, Int64.lt_iff_toInt_lt, Int64.le_iff_toInt_le, ← Int64.toInt_inj, Int32.lt_iff_toInt_lt, Int32.le_iff_toInt_le, ← Int32.toInt_inj]
  have e1 : (1 : Int32).toInt = 1 := by decide
  have e0 : (0 : Int32).toInt = 0 := by decide
  have em : (-1 : Int32).toInt = -1 := by decide
  split
  · simp only [e1, e0]; omega
  · split
    · simp only [e0]; (constructor <;> intro h9 <;> first | omega | trivial)
    · simp only [em, e0]; omega
theorem zlc_gt (u v : Int64) : 0 < lg_cmp u v ↔ v < u := by
  unfold lg_cmp
  simp only [gt_iff_lt, Int64.lt_iff_toInt_lt, Int64.le_iff_toInt_le, ← Int64.toInt_inj, Int32.lt_iff_toInt_lt, Int32.le_iff_toInt_le, ← Int32.toInt_inj]
  have e1 : (1 : Int32).toInt = 1 := by decide
  have e0 : (0 : Int32).toInt = 0 := by decide
  have em : (-1 : Int32).toInt = -1 := by decide
  split
  · simp only [e1, e0]; omega
  · split
    · simp only [e0]; (constructor <;> intro h9 <;> first | omega | trivial)
    · simp only [em, e0]; omega
theorem zlc_le (u v : Int64) : lg_cmp u v ≤ 0 ↔ u ≤ v := by
  unfold lg_cmp
  simp only [gt_iff_lt, Int64.lt_iff_toInt_lt, Int64.le_iff_toInt_le, ← Int64.toInt_inj, Int32.lt_iff_toInt_lt, Int32.le_iff_toInt_le, ← Int32.toInt_inj]
  have e1 : (1 : Int32).toInt = 1 := by decide
  have e0 : (0 : Int32).toInt = 0 := by decide
  have em : (-1 : Int32).toInt = -1 := by decide
  split
  · simp only [e1, e0]; omega
  · split
    · simp only [e0]; (constructor <;> intro h9 <;> first | omega | trivial)
    · simp only [em, e0]; omega
section
variable {x : zFx} {rm : Room} {cc : ByteArray} {own : String} {nL ca sl pc pc' pc2 tgt : Nat} {ws : va_W} {lv : List (Nat × Value)} {st : List Value}
theorem r_iconst (C : zC x cc own nL rm) {n : Int} {v : Int32} (hd : zd 1 cc pc pc' (.iconst n)) (hv : Int32.ofInt n = v) (kk : vV x nL ca sl ws pc' lv (.int v :: st)) : vV x nL ca sl ws pc lv st := by
  obtain ⟨hd, rfl⟩ := hd
  exact fun H locs ls hP hD hS hl => lv_iconst C.ex C.b hd hv (kk H locs ls hP hD hS hl)
theorem r_bipush (C : zC x cc own nL rm) {n : Int} {v : Int32} (hd : zd 2 cc pc pc' (.bipush n)) (hv : (Int8.ofInt n).toInt32 = v) (kk : vV x nL ca sl ws pc' lv (.int v :: st)) : vV x nL ca sl ws pc lv st := by
  obtain ⟨hd, rfl⟩ := hd
  exact fun H locs ls hP hD hS hl => lv_bipush C.ex C.b hd hv (kk H locs ls hP hD hS hl)
theorem r_sipush (C : zC x cc own nL rm) {n : Int} {v : Int32} (hd : zd 3 cc pc pc' (.sipush n)) (hv : (Int16.ofInt n).toInt32 = v) (kk : vV x nL ca sl ws pc' lv (.int v :: st)) : vV x nL ca sl ws pc lv st := by
  obtain ⟨hd, rfl⟩ := hd
  exact fun H locs ls hP hD hS hl => lv_sipush C.ex C.b hd hv (kk H locs ls hP hD hS hl)
theorem r_lconst (C : zC x cc own nL rm) {n : Fin 2} {v : Int64} (hd : zd 1 cc pc pc' (.lconst n)) (hv : Int64.ofNat (n : Nat) = v) (kk : vV x nL ca sl ws pc' lv (.long v :: st)) : vV x nL ca sl ws pc lv st := by
  obtain ⟨hd, rfl⟩ := hd
  exact fun H locs ls hP hD hS hl => lv_lconst C.ex C.b hd hv (kk H locs ls hP hD hS hl)
theorem r_ldc (C : zC x cc own nL rm) {i : Nat} {v : Int32} (hd : zd 2 cc pc pc' (.ldc i)) (hq : Cond.constant own i v ∈ TB) (kk : vV x nL ca sl ws pc' lv (.int v :: st)) : vV x nL ca sl ws pc lv st := by
  obtain ⟨hd, rfl⟩ := hd
  exact fun H locs ls hP hD hS hl => lv_ldc C.ex C.b C.own (C.ts _ hq) hd (kk H locs ls hP hD hS hl)
theorem r_ldc_w (C : zC x cc own nL rm) {i : Nat} {v : Int32} (hd : zd 3 cc pc pc' (.ldc_w i)) (hq : Cond.constant own i v ∈ TB) (kk : vV x nL ca sl ws pc' lv (.int v :: st)) : vV x nL ca sl ws pc lv st := by
  obtain ⟨hd, rfl⟩ := hd
  exact fun H locs ls hP hD hS hl => lv_ldcw C.ex C.b C.own (C.ts _ hq) hd (kk H locs ls hP hD hS hl)
theorem r_ldc2 (C : zC x cc own nL rm) {i : Nat} {v : Int64} (hd : zd 3 cc pc pc' (.ldc2_w i)) (hq : Cond.constantLong own i v ∈ TB) (kk : vV x nL ca sl ws pc' lv (.long v :: st)) : vV x nL ca sl ws pc lv st := by
  obtain ⟨hd, rfl⟩ := hd
  exact fun H locs ls hP hD hS hl => lv_ldc2 C.ex C.b C.own (C.ts _ hq) hd (kk H locs ls hP hD hS hl)
theorem r_iload_n (C : zC x cc own nL rm) {k : Fin 4} {i : Nat} {v : Int32} (hd : zd 1 cc pc pc' (.iload_n k)) (j : Nat) (hi : (k : Nat) = i) (hl : lv[j]? = some (i, .int v)) (kk : vV x nL ca sl ws pc' lv (.int v :: st)) : vV x nL ca sl ws pc lv st := by
  obtain ⟨hd, rfl⟩ := hd
  exact fun H locs ls hP hD hS h => lv_iload_n C.ex C.b hd hi (lv_at h j hl) (kk H locs ls hP hD hS h)
theorem r_iload (C : zC x cc own nL rm) {i : Nat} {v : Int32} (hd : zd 2 cc pc pc' (.iload i)) (j : Nat) (hl : lv[j]? = some (i, .int v)) (kk : vV x nL ca sl ws pc' lv (.int v :: st)) : vV x nL ca sl ws pc lv st := by
  obtain ⟨hd, rfl⟩ := hd
  exact fun H locs ls hP hD hS h => lv_iload C.ex C.b hd (lv_at h j hl) (kk H locs ls hP hD hS h)
theorem r_lload_n (C : zC x cc own nL rm) {k : Fin 4} {i : Nat} {v : Int64} (hd : zd 1 cc pc pc' (.lload_n k)) (j : Nat) (hi : (k : Nat) = i) (hl : lv[j]? = some (i, .long v)) (kk : vV x nL ca sl ws pc' lv (.long v :: st)) : vV x nL ca sl ws pc lv st := by
  obtain ⟨hd, rfl⟩ := hd
  exact fun H locs ls hP hD hS h => lv_lload_n C.ex C.b hd hi (lv_at h j hl) (kk H locs ls hP hD hS h)
theorem r_lload (C : zC x cc own nL rm) {i : Nat} {v : Int64} (hd : zd 2 cc pc pc' (.lload i)) (j : Nat) (hl : lv[j]? = some (i, .long v)) (kk : vV x nL ca sl ws pc' lv (.long v :: st)) : vV x nL ca sl ws pc lv st := by
  obtain ⟨hd, rfl⟩ := hd
  exact fun H locs ls hP hD hS h => lv_lload C.ex C.b hd (lv_at h j hl) (kk H locs ls hP hD hS h)
theorem r_aload_n (C : zC x cc own nL rm) {k : Fin 4} {i : Nat} {v : Nat} (hd : zd 1 cc pc pc' (.aload_n k)) (j : Nat) (hi : (k : Nat) = i) (hl : lv[j]? = some (i, .ref v)) (kk : vV x nL ca sl ws pc' lv (.ref v :: st)) : vV x nL ca sl ws pc lv st := by
  obtain ⟨hd, rfl⟩ := hd
  exact fun H locs ls hP hD hS h => lv_aload_n C.ex C.b hd hi (lv_at h j hl) (kk H locs ls hP hD hS h)
theorem r_aload (C : zC x cc own nL rm) {i : Nat} {v : Nat} (hd : zd 2 cc pc pc' (.aload i)) (j : Nat) (hl : lv[j]? = some (i, .ref v)) (kk : vV x nL ca sl ws pc' lv (.ref v :: st)) : vV x nL ca sl ws pc lv st := by
  obtain ⟨hd, rfl⟩ := hd
  exact fun H locs ls hP hD hS h => lv_aload C.ex C.b hd (lv_at h j hl) (kk H locs ls hP hD hS h)
theorem r_istore_n (C : zC x cc own nL rm) (lv' : List (Nat × Value)) {k : Fin 4} {i : Nat} {v : Int32} (hd : zd 1 cc pc pc' (.istore_n k)) (hi : (k : Nat) = i) (hn : i < nL) (hl : (i, Value.int v) :: lv.filter (fun q => !(q.1 == i) && !(q.1 + 1 == i && q.2.category == 2)) = lv') (kk : vV x nL ca sl ws pc' lv' st) : vV x nL ca sl ws pc lv (.int v :: st) := by
  obtain ⟨hd, rfl⟩ := hd
  exact fun H locs ls hP hD hS h => lv_istore_n C.ex C.b hd hi h hn hl (fun ls' h' => kk H locs ls' hP hD hS h')
theorem r_istore (C : zC x cc own nL rm) (lv' : List (Nat × Value)) {i : Nat} {v : Int32} (hd : zd 2 cc pc pc' (.istore i)) (hn : i < nL) (hl : (i, Value.int v) :: lv.filter (fun q => !(q.1 == i) && !(q.1 + 1 == i && q.2.category == 2)) = lv') (kk : vV x nL ca sl ws pc' lv' st) : vV x nL ca sl ws pc lv (.int v :: st) := by
  obtain ⟨hd, rfl⟩ := hd
  exact fun H locs ls hP hD hS h => lv_istore C.ex C.b hd h hn hl (fun ls' h' => kk H locs ls' hP hD hS h')
theorem r_lstore_n (C : zC x cc own nL rm) (lv' : List (Nat × Value)) {k : Fin 4} {i : Nat} {v : Int64} (hd : zd 1 cc pc pc' (.lstore_n k)) (hi : (k : Nat) = i) (hn : i + 1 < nL) (hl : (i, Value.long v) :: lv.filter (fun q => !(q.1 == i) && (!(q.1 == i + 1) && !(q.1 + 1 == i && q.2.category == 2))) = lv') (kk : vV x nL ca sl ws pc' lv' st) : vV x nL ca sl ws pc lv (.long v :: st) := by
  obtain ⟨hd, rfl⟩ := hd
  exact fun H locs ls hP hD hS h => lv_lstore_n C.ex C.b hd hi h hn hl (fun ls' h' => kk H locs ls' hP hD hS h')
theorem r_lstore (C : zC x cc own nL rm) (lv' : List (Nat × Value)) {i : Nat} {v : Int64} (hd : zd 2 cc pc pc' (.lstore i)) (hn : i + 1 < nL) (hl : (i, Value.long v) :: lv.filter (fun q => !(q.1 == i) && (!(q.1 == i + 1) && !(q.1 + 1 == i && q.2.category == 2))) = lv') (kk : vV x nL ca sl ws pc' lv' st) : vV x nL ca sl ws pc lv (.long v :: st) := by
  obtain ⟨hd, rfl⟩ := hd
  exact fun H locs ls hP hD hS h => lv_lstore C.ex C.b hd h hn hl (fun ls' h' => kk H locs ls' hP hD hS h')
theorem r_astore_n (C : zC x cc own nL rm) (lv' : List (Nat × Value)) {k : Fin 4} {i : Nat} {v : Nat} (hd : zd 1 cc pc pc' (.astore_n k)) (hi : (k : Nat) = i) (hn : i < nL) (hl : (i, Value.ref v) :: lv.filter (fun q => !(q.1 == i) && !(q.1 + 1 == i && q.2.category == 2)) = lv') (kk : vV x nL ca sl ws pc' lv' st) : vV x nL ca sl ws pc lv (.ref v :: st) := by
  obtain ⟨hd, rfl⟩ := hd
  exact fun H locs ls hP hD hS h => lv_astore_n C.ex C.b hd hi h hn hl (fun ls' h' => kk H locs ls' hP hD hS h')
theorem r_astore (C : zC x cc own nL rm) (lv' : List (Nat × Value)) {i : Nat} {v : Nat} (hd : zd 2 cc pc pc' (.astore i)) (hn : i < nL) (hl : (i, Value.ref v) :: lv.filter (fun q => !(q.1 == i) && !(q.1 + 1 == i && q.2.category == 2)) = lv') (kk : vV x nL ca sl ws pc' lv' st) : vV x nL ca sl ws pc lv (.ref v :: st) := by
  obtain ⟨hd, rfl⟩ := hd
  exact fun H locs ls hP hD hS h => lv_astore C.ex C.b hd h hn hl (fun ls' h' => kk H locs ls' hP hD hS h')
theorem r_iinc (C : zC x cc own nL rm) (lv' : List (Nat × Value)) {i : Nat} {n : Int} {u v : Int32} (hd : zd 3 cc pc pc' (.iinc i n)) (j : Nat) (hk : lv[j]? = some (i, .int u)) (hv : u + Int32.ofInt n = v) (hn : i < nL) (hl : (i, Value.int v) :: lv.filter (fun q => !(q.1 == i) && !(q.1 + 1 == i && q.2.category == 2)) = lv') (kk : vV x nL ca sl ws pc' lv' st) : vV x nL ca sl ws pc lv st := by
  obtain ⟨hd, rfl⟩ := hd
  exact fun H locs ls hP hD hS h => lv_iinc C.ex C.b hd h hk hv hn hl (fun ls' h' => kk H locs ls' hP hD hS h')
/-- fewer locals, in any order -/
theorem r_sub (ks : List Nat) {lv' : List (Nat × Value)} (hl : lv_pick lv ks = lv') (kk : vV x nL ca sl ws pc lv' st) : vV x nL ca sl ws pc lv st := fun H locs ls hP hD hS h => kk H locs ls hP hD hS (lv_sub h ks hl)
theorem r_iadd (C : zC x cc own nL rm) {u v : Int32} (hd : zd 1 cc pc pc' .iadd) (kk : vV x nL ca sl ws pc' lv (.int (u + v) :: st)) : vV x nL ca sl ws pc lv (.int v :: .int u :: st) := by
  obtain ⟨hd, rfl⟩ := hd
  exact fun H locs ls hP hD hS h => lv_iadd C.ex C.b hd (kk H locs ls hP hD hS h)
theorem r_isub (C : zC x cc own nL rm) {u v : Int32} (hd : zd 1 cc pc pc' .isub) (kk : vV x nL ca sl ws pc' lv (.int (u - v) :: st)) : vV x nL ca sl ws pc lv (.int v :: .int u :: st) := by
  obtain ⟨hd, rfl⟩ := hd
  exact fun H locs ls hP hD hS h => lv_isub C.ex C.b hd (kk H locs ls hP hD hS h)
theorem r_imul (C : zC x cc own nL rm) {u v : Int32} (hd : zd 1 cc pc pc' .imul) (kk : vV x nL ca sl ws pc' lv (.int (u * v) :: st)) : vV x nL ca sl ws pc lv (.int v :: .int u :: st) := by
  obtain ⟨hd, rfl⟩ := hd
  exact fun H locs ls hP hD hS h => lv_imul C.ex C.b hd (kk H locs ls hP hD hS h)
theorem r_iand (C : zC x cc own nL rm) {u v : Int32} (hd : zd 1 cc pc pc' .iand) (kk : vV x nL ca sl ws pc' lv (.int (u &&& v) :: st)) : vV x nL ca sl ws pc lv (.int v :: .int u :: st) := by
  obtain ⟨hd, rfl⟩ := hd
  exact fun H locs ls hP hD hS h => lv_iand C.ex C.b hd (kk H locs ls hP hD hS h)
theorem r_ior (C : zC x cc own nL rm) {u v : Int32} (hd : zd 1 cc pc pc' .ior) (kk : vV x nL ca sl ws pc' lv (.int (u ||| v) :: st)) : vV x nL ca sl ws pc lv (.int v :: .int u :: st) := by
  obtain ⟨hd, rfl⟩ := hd
  exact fun H locs ls hP hD hS h => lv_ior C.ex C.b hd (kk H locs ls hP hD hS h)
theorem r_ixor (C : zC x cc own nL rm) {u v : Int32} (hd : zd 1 cc pc pc' .ixor) (kk : vV x nL ca sl ws pc' lv (.int (u ^^^ v) :: st)) : vV x nL ca sl ws pc lv (.int v :: .int u :: st) := by
  obtain ⟨hd, rfl⟩ := hd
  exact fun H locs ls hP hD hS h => lv_ixor C.ex C.b hd (kk H locs ls hP hD hS h)
theorem r_ishl (C : zC x cc own nL rm) {u v : Int32} (hd : zd 1 cc pc pc' .ishl) (kk : vV x nL ca sl ws pc' lv (.int (u <<< (v &&& 31)) :: st)) : vV x nL ca sl ws pc lv (.int v :: .int u :: st) := by
  obtain ⟨hd, rfl⟩ := hd
  exact fun H locs ls hP hD hS h => lv_ishl C.ex C.b hd (kk H locs ls hP hD hS h)
theorem r_ishr (C : zC x cc own nL rm) {u v : Int32} (hd : zd 1 cc pc pc' .ishr) (kk : vV x nL ca sl ws pc' lv (.int (u >>> (v &&& 31)) :: st)) : vV x nL ca sl ws pc lv (.int v :: .int u :: st) := by
  obtain ⟨hd, rfl⟩ := hd
  exact fun H locs ls hP hD hS h => lv_ishr C.ex C.b hd (kk H locs ls hP hD hS h)
theorem r_ladd (C : zC x cc own nL rm) {u v : Int64} (hd : zd 1 cc pc pc' .ladd) (kk : vV x nL ca sl ws pc' lv (.long (u + v) :: st)) : vV x nL ca sl ws pc lv (.long v :: .long u :: st) := by
  obtain ⟨hd, rfl⟩ := hd
  exact fun H locs ls hP hD hS h => lv_ladd C.ex C.b hd (kk H locs ls hP hD hS h)
theorem r_lsub (C : zC x cc own nL rm) {u v : Int64} (hd : zd 1 cc pc pc' .lsub) (kk : vV x nL ca sl ws pc' lv (.long (u - v) :: st)) : vV x nL ca sl ws pc lv (.long v :: .long u :: st) := by
  obtain ⟨hd, rfl⟩ := hd
  exact fun H locs ls hP hD hS h => lv_lsub C.ex C.b hd (kk H locs ls hP hD hS h)
theorem r_lmul (C : zC x cc own nL rm) {u v : Int64} (hd : zd 1 cc pc pc' .lmul) (kk : vV x nL ca sl ws pc' lv (.long (u * v) :: st)) : vV x nL ca sl ws pc lv (.long v :: .long u :: st) := by
  obtain ⟨hd, rfl⟩ := hd
  exact fun H locs ls hP hD hS h => lv_lmul C.ex C.b hd (kk H locs ls hP hD hS h)
theorem r_land (C : zC x cc own nL rm) {u v : Int64} (hd : zd 1 cc pc pc' .land) (kk : vV x nL ca sl ws pc' lv (.long (u &&& v) :: st)) : vV x nL ca sl ws pc lv (.long v :: .long u :: st) := by
  obtain ⟨hd, rfl⟩ := hd
  exact fun H locs ls hP hD hS h => lv_land C.ex C.b hd (kk H locs ls hP hD hS h)
theorem r_lor (C : zC x cc own nL rm) {u v : Int64} (hd : zd 1 cc pc pc' .lor) (kk : vV x nL ca sl ws pc' lv (.long (u ||| v) :: st)) : vV x nL ca sl ws pc lv (.long v :: .long u :: st) := by
  obtain ⟨hd, rfl⟩ := hd
  exact fun H locs ls hP hD hS h => lv_lor C.ex C.b hd (kk H locs ls hP hD hS h)
theorem r_idiv (C : zC x cc own nL rm) {u v : Int32} (hd : zd 1 cc pc pc' .idiv) (hne : ¬ v = 0) (kk : vV x nL ca sl ws pc' lv (.int (u / v) :: st)) : vV x nL ca sl ws pc lv (.int v :: .int u :: st) := by
  obtain ⟨hd, rfl⟩ := hd
  exact fun H locs ls hP hD hS h => lv_idiv C.ex C.b hd hne (kk H locs ls hP hD hS h)
theorem r_irem (C : zC x cc own nL rm) {u v : Int32} (hd : zd 1 cc pc pc' .irem) (hne : ¬ v = 0) (kk : vV x nL ca sl ws pc' lv (.int (u - u / v * v) :: st)) : vV x nL ca sl ws pc lv (.int v :: .int u :: st) := by
  obtain ⟨hd, rfl⟩ := hd
  exact fun H locs ls hP hD hS h => lv_irem C.ex C.b hd hne (kk H locs ls hP hD hS h)
theorem r_ldiv (C : zC x cc own nL rm) {u v : Int64} (hd : zd 1 cc pc pc' .ldiv) (hne : ¬ v = 0) (kk : vV x nL ca sl ws pc' lv (.long (u / v) :: st)) : vV x nL ca sl ws pc lv (.long v :: .long u :: st) := by
  obtain ⟨hd, rfl⟩ := hd
  exact fun H locs ls hP hD hS h => lv_ldiv C.ex C.b hd hne (kk H locs ls hP hD hS h)
theorem r_lrem (C : zC x cc own nL rm) {u v : Int64} (hd : zd 1 cc pc pc' .lrem) (hne : ¬ v = 0) (kk : vV x nL ca sl ws pc' lv (.long (u - u / v * v) :: st)) : vV x nL ca sl ws pc lv (.long v :: .long u :: st) := by
  obtain ⟨hd, rfl⟩ := hd
  exact fun H locs ls hP hD hS h => lv_lrem C.ex C.b hd hne (kk H locs ls hP hD hS h)
theorem r_ineg (C : zC x cc own nL rm) {u : Int32} (hd : zd 1 cc pc pc' .ineg) (kk : vV x nL ca sl ws pc' lv (.int (-u) :: st)) : vV x nL ca sl ws pc lv (.int u :: st) := by
  obtain ⟨hd, rfl⟩ := hd
  exact fun H locs ls hP hD hS h => lv_ineg C.ex C.b hd (kk H locs ls hP hD hS h)
theorem r_lneg (C : zC x cc own nL rm) {u : Int64} (hd : zd 1 cc pc pc' .lneg) (kk : vV x nL ca sl ws pc' lv (.long (-u) :: st)) : vV x nL ca sl ws pc lv (.long u :: st) := by
  obtain ⟨hd, rfl⟩ := hd
  exact fun H locs ls hP hD hS h => lv_lneg C.ex C.b hd (kk H locs ls hP hD hS h)
theorem r_i2l (C : zC x cc own nL rm) {u : Int32} (hd : zd 1 cc pc pc' .i2l) (kk : vV x nL ca sl ws pc' lv (.long u.toInt64 :: st)) : vV x nL ca sl ws pc lv (.int u :: st) := by
  obtain ⟨hd, rfl⟩ := hd
  exact fun H locs ls hP hD hS h => lv_i2l C.ex C.b hd rfl (kk H locs ls hP hD hS h)
theorem r_l2i (C : zC x cc own nL rm) {u : Int64} (hd : zd 1 cc pc pc' .l2i) (kk : vV x nL ca sl ws pc' lv (.int u.toInt32 :: st)) : vV x nL ca sl ws pc lv (.long u :: st) := by
  obtain ⟨hd, rfl⟩ := hd
  exact fun H locs ls hP hD hS h => lv_l2i C.ex C.b hd rfl (kk H locs ls hP hD hS h)
theorem r_i2c (C : zC x cc own nL rm) {u : Int32} (hd : zd 1 cc pc pc' .i2c) (kk : vV x nL ca sl ws pc' lv (.int (u.toUInt32 % 65536).toInt32 :: st)) : vV x nL ca sl ws pc lv (.int u :: st) := by
  obtain ⟨hd, rfl⟩ := hd
  exact fun H locs ls hP hD hS h => lv_i2c C.ex C.b hd rfl (kk H locs ls hP hD hS h)
theorem r_lshl (C : zC x cc own nL rm) {u : Int64} {v : Int32} (hd : zd 1 cc pc pc' .lshl) (kk : vV x nL ca sl ws pc' lv (.long (u <<< (v.toInt64 &&& 63)) :: st)) : vV x nL ca sl ws pc lv (.int v :: .long u :: st) := by
  obtain ⟨hd, rfl⟩ := hd
  exact fun H locs ls hP hD hS h => lv_lshl C.ex C.b hd rfl (kk H locs ls hP hD hS h)
theorem r_lshr (C : zC x cc own nL rm) {u : Int64} {v : Int32} (hd : zd 1 cc pc pc' .lshr) (kk : vV x nL ca sl ws pc' lv (.long (u >>> (v.toInt64 &&& 63)) :: st)) : vV x nL ca sl ws pc lv (.int v :: .long u :: st) := by
  obtain ⟨hd, rfl⟩ := hd
  exact fun H locs ls hP hD hS h => lv_lshr C.ex C.b hd rfl (kk H locs ls hP hD hS h)
theorem r_dup (C : zC x cc own nL rm) {v : Value} (hd : zd 1 cc pc pc' .dup) (hv : v.category = 1) (kk : vV x nL ca sl ws pc' lv (v :: v :: st)) : vV x nL ca sl ws pc lv (v :: st) := by
  obtain ⟨hd, rfl⟩ := hd
  exact fun H locs ls hP hD hS h => lv_dup C.ex C.b hd hv (kk H locs ls hP hD hS h)
theorem r_dup2 (C : zC x cc own nL rm) {u v : Value} (hd : zd 1 cc pc pc' .dup2) (hu : u.category = 1) (hv : v.category = 1) (kk : vV x nL ca sl ws pc' lv (u :: v :: u :: v :: st)) : vV x nL ca sl ws pc lv (u :: v :: st) := by
  obtain ⟨hd, rfl⟩ := hd
  exact fun H locs ls hP hD hS h => lv_dup2_11 C.ex C.b hd hu hv (kk H locs ls hP hD hS h)
theorem r_pop (C : zC x cc own nL rm) {v : Value} (hd : zd 1 cc pc pc' .pop) (hv : v.category = 1) (kk : vV x nL ca sl ws pc' lv st) : vV x nL ca sl ws pc lv (v :: st) := by
  obtain ⟨hd, rfl⟩ := hd
  exact fun H locs ls hP hD hS h => lv_pop C.ex C.b hd hv (kk H locs ls hP hD hS h)
theorem r_icmp_eq (C : zC x cc own nL rm) {u v : Int32} (hd : zdi cc pc pc' tgt (.if_icmp .eq)) (kt : u = v → vV x nL ca sl ws tgt lv st) (kf : ¬ u = v → vV x nL ca sl ws pc' lv st) : vV x nL ca sl ws pc lv (.int v :: .int u :: st) := by
  obtain ⟨off, hd, rfl, ht⟩ := hd
  exact fun H locs ls hP hD hS h => lv_icmp_eq C.ex C.b hd ht (fun c => kt c H locs ls hP hD hS h) (fun c => kf c H locs ls hP hD hS h)
theorem r_if_eq (C : zC x cc own nL rm) {u : Int32} (hd : zdi cc pc pc' tgt (.ifCond .eq)) (kt : u = 0 → vV x nL ca sl ws tgt lv st) (kf : ¬ u = 0 → vV x nL ca sl ws pc' lv st) : vV x nL ca sl ws pc lv (.int u :: st) := by
  obtain ⟨off, hd, rfl, ht⟩ := hd
  exact fun H locs ls hP hD hS h => lv_if_eq C.ex C.b hd ht (fun c => kt c H locs ls hP hD hS h) (fun c => kf c H locs ls hP hD hS h)
theorem r_lcmp_eq (C : zC x cc own nL rm) {u v : Int64} (hc : zd 1 cc pc pc2 .lcmp) (hd : zdi cc pc2 pc' tgt (.ifCond .eq)) (kt : u = v → vV x nL ca sl ws tgt lv st) (kf : ¬ (u = v) → vV x nL ca sl ws pc' lv st) : vV x nL ca sl ws pc lv (.long v :: .long u :: st) := by
  obtain ⟨hc, rfl⟩ := hc
  exact fun H locs ls hP hD hS h => W.lcmp C.ex C.b hc (r_if_eq C hd (fun c => kt ((zlc_eq u v).mp c)) (fun c => kf (fun c' => c ((zlc_eq u v).mpr c'))) H locs ls hP hD hS h)
theorem r_icmp_ne (C : zC x cc own nL rm) {u v : Int32} (hd : zdi cc pc pc' tgt (.if_icmp .ne)) (kt : ¬ u = v → vV x nL ca sl ws tgt lv st) (kf : u = v → vV x nL ca sl ws pc' lv st) : vV x nL ca sl ws pc lv (.int v :: .int u :: st) := by
  obtain ⟨off, hd, rfl, ht⟩ := hd
  exact fun H locs ls hP hD hS h => lv_icmp_ne C.ex C.b hd ht (fun c => kt c H locs ls hP hD hS h) (fun c => kf c H locs ls hP hD hS h)
theorem r_if_ne (C : zC x cc own nL rm) {u : Int32} (hd : zdi cc pc pc' tgt (.ifCond .ne)) (kt : ¬ u = 0 → vV x nL ca sl ws tgt lv st) (kf : u = 0 → vV x nL ca sl ws pc' lv st) : vV x nL ca sl ws pc lv (.int u :: st) := by
  obtain ⟨off, hd, rfl, ht⟩ := hd
  exact fun H locs ls hP hD hS h => lv_if_ne C.ex C.b hd ht (fun c => kt c H locs ls hP hD hS h) (fun c => kf c H locs ls hP hD hS h)
theorem r_lcmp_ne (C : zC x cc own nL rm) {u v : Int64} (hc : zd 1 cc pc pc2 .lcmp) (hd : zdi cc pc2 pc' tgt (.ifCond .ne)) (kt : ¬ u = v → vV x nL ca sl ws tgt lv st) (kf : u = v → vV x nL ca sl ws pc' lv st) : vV x nL ca sl ws pc lv (.long v :: .long u :: st) := by
  obtain ⟨hc, rfl⟩ := hc
  exact fun H locs ls hP hD hS h => W.lcmp C.ex C.b hc (r_if_ne C hd (fun c => kt (fun c' => c ((zlc_eq u v).mpr c'))) (fun c => kf ((zlc_eq u v).mp c)) H locs ls hP hD hS h)
theorem r_icmp_lt (C : zC x cc own nL rm) {u v : Int32} (hd : zdi cc pc pc' tgt (.if_icmp .lt)) (kt : u < v → vV x nL ca sl ws tgt lv st) (kf : ¬ u < v → vV x nL ca sl ws pc' lv st) : vV x nL ca sl ws pc lv (.int v :: .int u :: st) := by
  obtain ⟨off, hd, rfl, ht⟩ := hd
  exact fun H locs ls hP hD hS h => lv_icmp_lt C.ex C.b hd ht (fun c => kt c H locs ls hP hD hS h) (fun c => kf c H locs ls hP hD hS h)
theorem r_if_lt (C : zC x cc own nL rm) {u : Int32} (hd : zdi cc pc pc' tgt (.ifCond .lt)) (kt : u < 0 → vV x nL ca sl ws tgt lv st) (kf : ¬ u < 0 → vV x nL ca sl ws pc' lv st) : vV x nL ca sl ws pc lv (.int u :: st) := by
  obtain ⟨off, hd, rfl, ht⟩ := hd
  exact fun H locs ls hP hD hS h => lv_if_lt C.ex C.b hd ht (fun c => kt c H locs ls hP hD hS h) (fun c => kf c H locs ls hP hD hS h)
theorem r_lcmp_lt (C : zC x cc own nL rm) {u v : Int64} (hc : zd 1 cc pc pc2 .lcmp) (hd : zdi cc pc2 pc' tgt (.ifCond .lt)) (kt : u < v → vV x nL ca sl ws tgt lv st) (kf : ¬ (u < v) → vV x nL ca sl ws pc' lv st) : vV x nL ca sl ws pc lv (.long v :: .long u :: st) := by
  obtain ⟨hc, rfl⟩ := hc
  exact fun H locs ls hP hD hS h => W.lcmp C.ex C.b hc (r_if_lt C hd (fun c => kt ((zlc_lt u v).mp c)) (fun c => kf (fun c' => c ((zlc_lt u v).mpr c'))) H locs ls hP hD hS h)
theorem r_icmp_ge (C : zC x cc own nL rm) {u v : Int32} (hd : zdi cc pc pc' tgt (.if_icmp .ge)) (kt : v ≤ u → vV x nL ca sl ws tgt lv st) (kf : ¬ v ≤ u → vV x nL ca sl ws pc' lv st) : vV x nL ca sl ws pc lv (.int v :: .int u :: st) := by
  obtain ⟨off, hd, rfl, ht⟩ := hd
  exact fun H locs ls hP hD hS h => lv_icmp_ge C.ex C.b hd ht (fun c => kt c H locs ls hP hD hS h) (fun c => kf c H locs ls hP hD hS h)
theorem r_if_ge (C : zC x cc own nL rm) {u : Int32} (hd : zdi cc pc pc' tgt (.ifCond .ge)) (kt : 0 ≤ u → vV x nL ca sl ws tgt lv st) (kf : ¬ 0 ≤ u → vV x nL ca sl ws pc' lv st) : vV x nL ca sl ws pc lv (.int u :: st) := by
  obtain ⟨off, hd, rfl, ht⟩ := hd
  exact fun H locs ls hP hD hS h => lv_if_ge C.ex C.b hd ht (fun c => kt c H locs ls hP hD hS h) (fun c => kf c H locs ls hP hD hS h)
theorem r_lcmp_ge (C : zC x cc own nL rm) {u v : Int64} (hc : zd 1 cc pc pc2 .lcmp) (hd : zdi cc pc2 pc' tgt (.ifCond .ge)) (kt : v ≤ u → vV x nL ca sl ws tgt lv st) (kf : ¬ (v ≤ u) → vV x nL ca sl ws pc' lv st) : vV x nL ca sl ws pc lv (.long v :: .long u :: st) := by
  obtain ⟨hc, rfl⟩ := hc
  exact fun H locs ls hP hD hS h => W.lcmp C.ex C.b hc (r_if_ge C hd (fun c => kt ((zlc_ge u v).mp c)) (fun c => kf (fun c' => c ((zlc_ge u v).mpr c'))) H locs ls hP hD hS h)
theorem r_icmp_gt (C : zC x cc own nL rm) {u v : Int32} (hd : zdi cc pc pc' tgt (.if_icmp .gt)) (kt : v < u → vV x nL ca sl ws tgt lv st) (kf : ¬ v < u → vV x nL ca sl ws pc' lv st) : vV x nL ca sl ws pc lv (.int v :: .int u :: st) := by
  obtain ⟨off, hd, rfl, ht⟩ := hd
  exact fun H locs ls hP hD hS h => lv_icmp_gt C.ex C.b hd ht (fun c => kt c H locs ls hP hD hS h) (fun c => kf c H locs ls hP hD hS h)
theorem r_if_gt (C : zC x cc own nL rm) {u : Int32} (hd : zdi cc pc pc' tgt (.ifCond .gt)) (kt : 0 < u → vV x nL ca sl ws tgt lv st) (kf : ¬ 0 < u → vV x nL ca sl ws pc' lv st) : vV x nL ca sl ws pc lv (.int u :: st) := by
  obtain ⟨off, hd, rfl, ht⟩ := hd
  exact fun H locs ls hP hD hS h => lv_if_gt C.ex C.b hd ht (fun c => kt c H locs ls hP hD hS h) (fun c => kf c H locs ls hP hD hS h)
theorem r_lcmp_gt (C : zC x cc own nL rm) {u v : Int64} (hc : zd 1 cc pc pc2 .lcmp) (hd : zdi cc pc2 pc' tgt (.ifCond .gt)) (kt : v < u → vV x nL ca sl ws tgt lv st) (kf : ¬ (v < u) → vV x nL ca sl ws pc' lv st) : vV x nL ca sl ws pc lv (.long v :: .long u :: st) := by
  obtain ⟨hc, rfl⟩ := hc
  exact fun H locs ls hP hD hS h => W.lcmp C.ex C.b hc (r_if_gt C hd (fun c => kt ((zlc_gt u v).mp c)) (fun c => kf (fun c' => c ((zlc_gt u v).mpr c'))) H locs ls hP hD hS h)
theorem r_icmp_le (C : zC x cc own nL rm) {u v : Int32} (hd : zdi cc pc pc' tgt (.if_icmp .le)) (kt : u ≤ v → vV x nL ca sl ws tgt lv st) (kf : ¬ u ≤ v → vV x nL ca sl ws pc' lv st) : vV x nL ca sl ws pc lv (.int v :: .int u :: st) := by
  obtain ⟨off, hd, rfl, ht⟩ := hd
  exact fun H locs ls hP hD hS h => lv_icmp_le C.ex C.b hd ht (fun c => kt c H locs ls hP hD hS h) (fun c => kf c H locs ls hP hD hS h)
theorem r_if_le (C : zC x cc own nL rm) {u : Int32} (hd : zdi cc pc pc' tgt (.ifCond .le)) (kt : u ≤ 0 → vV x nL ca sl ws tgt lv st) (kf : ¬ u ≤ 0 → vV x nL ca sl ws pc' lv st) : vV x nL ca sl ws pc lv (.int u :: st) := by
  obtain ⟨off, hd, rfl, ht⟩ := hd
  exact fun H locs ls hP hD hS h => lv_if_le C.ex C.b hd ht (fun c => kt c H locs ls hP hD hS h) (fun c => kf c H locs ls hP hD hS h)
theorem r_lcmp_le (C : zC x cc own nL rm) {u v : Int64} (hc : zd 1 cc pc pc2 .lcmp) (hd : zdi cc pc2 pc' tgt (.ifCond .le)) (kt : u ≤ v → vV x nL ca sl ws tgt lv st) (kf : ¬ (u ≤ v) → vV x nL ca sl ws pc' lv st) : vV x nL ca sl ws pc lv (.long v :: .long u :: st) := by
  obtain ⟨hc, rfl⟩ := hc
  exact fun H locs ls hP hD hS h => W.lcmp C.ex C.b hc (r_if_le C hd (fun c => kt ((zlc_le u v).mp c)) (fun c => kf (fun c' => c ((zlc_le u v).mpr c'))) H locs ls hP hD hS h)
theorem r_goto (C : zC x cc own nL rm) (hd : zdi cc pc pc' tgt .goto) (kk : vV x nL ca sl ws tgt lv st) : vV x nL ca sl ws pc lv st := by
  obtain ⟨off, hd, rfl, ht⟩ := hd
  exact fun H locs ls hP hD hS h => lv_goto C.ex C.b hd ht (kk H locs ls hP hD hS h)
end
