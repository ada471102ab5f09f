/-! WHAT MAKES CELLS: constructors -/
def zMc (l : Launch) (y : MethodName) (cc : ByteArray) (n : Nat) (rm : Room) (mc ms : Nat) (g : zGl) (q : Nat) (ws : va_W) (ws' : (Nat → Nat) → va_W) : Prop :=
  ∀ sz : Nat, Met l y (zws y cc n none) rm (zPc g [.ref q] ws sz) (va_Qv (fun (a : Nat → Nat) => a 0 = q) (fun a t => va_P g.1 vwCl (ws' a) t.heap ∧ va_D (va_A ws sz) (ws' a)) (va_A ws sz)) mc ms (va_A ws sz)
theorem zMc_of {l : Launch} {y : MethodName} {cc : ByteArray} {n : Nat} {rm : Room} {mc ms : Nat} {g : zGl} {q : Nat} {ws : va_W} {ws' : (Nat → Nat) → va_W} (hy : plainName y.cls = true) (hyi : y.name = "<init>") (hsl : (lg_sl [.ref q]).length ≤ n)
    (body : ∀ x : zFx, z_l x = l → z_g x = g → zC x cc y.cls n rm → (z_me x).name = "<init>" → (∀ (a : Nat → Nat) (pc pc' : Nat) (lv : List (Nat × Value)), a 0 = q → zd 1 cc pc pc' .return_ → vV x n mc ms (ws' a) pc lv []) → vV x n 0 0 ws 0 [(0, .ref q)] []) : zMc l y cc n rm mc ms g q ws ws' := by
  intro sz
  refine Met.ofW (cc := cc) (maxL := n) (ret := none) hy rfl ?_
  intro p e s m args below meth c s₁ B hml hv
  obtain ⟨rfl, hsz, hP, hK, hD0, hZ⟩ := hv
  subst hsz
  have hts := atoms_spec (ws := zws y cc n none) B.pre
  have hown : s.vm.findClass y.cls = some m.cls := findClass_of_methodNamed B.named
  have hme : meth.name = "<init>" := by rw [← hyi]; exact (name_of_methodNamed B.named B.method).1
  have hA : ∀ q : Nat, s.heap.size ≤ q → va_A ws s.heap.size q := fun q h => Or.inr h
  have hl := lv_entry [.ref q] (n := n) hsl
  rw [lg_entry_eq]
  refine body (p, l, e, (headSpec (zws y cc n none) rm).room, s, m, [Value.ref q].toArray, below, meth, c, g, va_A ws s.heap.size, MQ below _ [Value.ref q].toArray s mc ms (va_A ws s.heap.size)) rfl rfl ⟨rfl, B.exec, B.bytes, hml, hown, fun w hw => hts w (List.mem_cons_of_mem _ hw), hK, hA, hZ⟩ hme ?_ s.heap [] _ hP hD0.self va_S.rf hl
  intro a pc pc' lv ha hd H locs ls hP hD hS hl
  exact W.vret B.exec B.bytes B.returns (fun t ht hW => ⟨⟨a, rfl, ha, by show va_P _ _ _ t.heap; rw [ht]; exact hP, hD⟩, hS.F ht⟩) hS.2.2 hd.1 B.notSynchronized
def zlPF (own : String) (idx ci k : Nat) (ty : FieldType) : Prop := ∃ (r : vw_C) (ty0 : Nat → FieldType), vwCl[ci]? = some r ∧ k < r.2.2 ∧ Cond.fieldLink own idx (r.2.1 k).1 (r.2.1 k).2.1 (r.2.1 k).2.2.1 ∈ TB ∧ (∀ w ∈ u_ws r.1 r.2.1 r.2.2, w ∈ TB) ∧ (∀ k, k < r.2.2 → parseFieldDescriptor (r.2.1 k).2.2.1 = some (ty0 k)) ∧ (∀ a, a < r.2.2 → ∀ b, b < r.2.2 → a ≠ b → (r.2.1 a).2.1 ≠ (r.2.1 b).2.1) ∧ (r.2.1 k).2.2.2 = true ∧ (r.2.1 k).1 = own ∧ parseFieldDescriptor (r.2.1 k).2.2.1 = some ty
def zlW (own : String) (idx ci N : Nat) (ty : Nat → FieldType) : Prop := ∃ (r : vw_C), vwCl[ci]? = some r ∧ r.2.2 = N ∧ Cond.classLink own idx r.1 ∈ TB ∧ Cond.instantiable r.1 r.2.2 ∈ TB ∧ Cond.initialized r.1 ∈ TB ∧ (∀ w ∈ u_ws r.1 r.2.1 r.2.2, w ∈ TB) ∧ ∀ k, k < r.2.2 → parseFieldDescriptor (r.2.1 k).2.2.1 = some (ty k)
def zlI (own : String) (idx : Nat) (y : MethodName) (cc : ByteArray) (n : Nat) : Prop := (Cond.methodLink own idx y ∈ TB ∨ ∃ host, Cond.methodLinkNest own idx y host ∈ NB) ∧ Cond.instanceMethod y ∈ TB ∧ Cond.initialized y.cls ∈ TB ∧ Cond.code y cc n none ∈ TB ∧ y.name = "<init>" ∧ zlD y 0
theorem zjoinL {A : Nat → Prop} {D : va_G} {cl : List vw_C} {ws w1 : va_W} {c : Nat × va_E} {H H1 : Heap} (hP : va_P D cl (ws ++ [c]) H) (hD : va_D A (ws ++ [c])) (hk : ∀ q : Nat, q < H.size → ¬ va_A [c] H.size q → H1[q]? = H[q]?) (hF : ∀ q, va_A [c] H.size q → A q) (hP1 : va_P D cl w1 H1) (hD1 : va_D (va_A [c] H.size) w1) : va_P D cl (ws ++ w1) H1 ∧ va_D A (ws ++ w1) := by
  have hl : ∀ (i : Nat) (p : Nat × va_E), ws[i]? = some p → (ws ++ [c])[i]? = some p := fun i p h => by
    rw [List.getElem?_append_left]
    · exact h
    · rcases Nat.lt_or_ge i ws.length with g | g
      · exact g
      · rw [List.getElem?_eq_none g] at h; cases h
  have hc : (ws ++ [c])[ws.length]? = some c := by simp
  have hlt : ∀ (i : Nat) (p : Nat × va_E), ws[i]? = some p → i < ws.length := fun i p h => by
    rcases Nat.lt_or_ge i ws.length with g | g
    · exact g
    · rw [List.getElem?_eq_none g] at h; cases h
  have hout : ∀ (i : Nat) (p : Nat × va_E), ws[i]? = some p → ¬ va_A [c] H.size p.1 := by
    intro i p h
    rintro (⟨k, e, hk'⟩ | hge)
    · cases k with
      | zero =>
        have e1 : c = (p.1, e) := by simpa using hk'
        have := hD.1 i ws.length p c (hl i p h) hc (by rw [e1])
        exact absurd (hlt i p h) (by omega)
      | succ k => simp at hk'
    · exact absurd (hP i p (hl i p h)).lt (Nat.not_lt.mpr hge)
  have hPw : va_P D cl ws H1 := fun i p h => (hP i p (hl i p h)).kept (hk p.1 (hP i p (hl i p h)).lt (hout i p h))
  have hDw : va_D A ws := ⟨fun i j p q hi hj e => hD.1 i j p q (hl i p hi) (hl j q hj) e, fun k q hk => hD.2 k q (hl k q hk)⟩
  refine ⟨hPw.app hP1, hDw.app (hD1.weaken (fun k q hk hq => hF q.1 hq)) (fun i j p q hi hj e => ?_)⟩
  exact hout i p hi (by rw [e]; exact hD1.2 j q hj)
section
variable {x : zFx} {rm rm' : Room} {cc bytes : ByteArray} {own : String} {nL maxL ca sl pc pc' idx ci k a mc ms : Nat} {ws ws' : va_W} {lv : List (Nat × Value)} {st : List Value} {fs : List Value} {v : Value} {y : MethodName}
theorem r_perm (ps : List Nat) (hs : ps.map (fun i => ws[i]?) = ws'.map some) (hn : va_nd ps = true) (kk : vV x nL ca sl ws' pc lv st) : vV x nL ca sl ws pc lv st := fun H locs ls hP hD hS hl => kk H locs ls (hP.sub ps (zfm _ ps ws' hs)) (hD.sub ps hn hs) hS hl
theorem r_putF (C : zC x cc own nL rm) (hme : (z_me x).name = "<init>") {ty : FieldType} (hd : zd 3 cc pc pc' (.putfield idx)) (K : zlPF own idx ci k ty) (q0 : Nat) (he : ws[q0]? = some (a, .inr (ci, fs))) (hn : narrow ty v = v) (hfit : fits ty v = true) (hl : k < fs.length) (hw : ws.set q0 (a, .inr (ci, fs.set k v)) = ws') (kk : vV x nL ca sl ws' pc' lv st) : vV x nL ca sl ws pc lv (v :: .ref a :: st) := by
  obtain ⟨hd, rfl⟩ := hd
  obtain ⟨r, ty0, h1, h2, h3, h4, h5, h6, h7, h8, h9⟩ := K
  subst hw
  exact fun H locs ls hP hD hS h => va_putF C.ex C.b C.ts h4 ty0 h5 h6 C.own C.K hP hD hS q0 he h1 k h2 (C.ts _ h3) (fun _ h => h) h7 hme h8 h9 hn hfit hl hd (fun H1 locs1 hP1 hD1 hS1 => kk H1 locs1 ls hP1 hD1 hS1 h)
theorem r_new (C : zC x cc own nL rm) {N : Nat} {ty : Nat → FieldType} (hd : zd 3 cc pc pc' (.new idx)) (K : zlW own idx ci N ty) (hfs : ∀ j, j < N → defaultValue (ty j) = vp_V fs j) (ca' sl' : Nat) (hcs : ca + 1 = ca' ∧ sl + N = sl' ∧ ca' ≤ rm.cells ∧ sl' ≤ rm.slots) (kk : ∀ q : Nat, vV x nL ca' sl' (ws ++ [(q, .inr (ci, fs))]) pc' lv (.ref q :: st)) : vV x nL ca sl ws pc lv st := by
  obtain ⟨hd, rfl⟩ := hd
  obtain ⟨r, h1, h2, h3, h4, h5, h6, h7⟩ := K
  subst h2
  obtain ⟨rfl, rfl, hc1, hc2⟩ := hcs
  exact fun H locs ls hP hD hS h => va_new C.ex C.b C.ts h6 ty h7 C.own (C.ts _ h3) (C.ts _ h4) (C.ts _ h5) C.K hP hD hS C.A h1 hfs (by rw [C.R]; exact hc1) (by rw [C.R]; exact hc2) hd (fun q H1 hP1 hD1 hS1 => kk q H1 locs ls hP1 hD1 hS1 h)
theorem r_obj (C : zC x cc own nL rm) (hd : zd 3 cc pc pc' (.invokespecial idx)) (hq : Cond.methodLink own idx Lib.objectInit ∈ TB) (hi : Cond.instanceMethod Lib.objectInit ∈ TB) (hc : Cond.code Lib.objectInit ⟨#[0xb1]⟩ 1 none ∈ TB) (hr : 1 ≤ rm.frames ∧ 20 ≤ rm.locals) (hsm : zsm st = true) (kk : vV x nL ca sl ws pc' lv st) : vV x nL ca sl ws pc lv (.ref a :: st) := by
  obtain ⟨hd, rfl⟩ := hd
  intro H locs ls hP hD hS h
  have hs := zsm_spec hsm
  refine W.objInit (g := F0 (z_m x) pc ls (.ref a :: st)) C.ex C.b C.own (C.ts _ hq) (C.ts _ hi) (C.ts _ hc) rfl (by rw [C.ml]; exact h.1) rfl hd (by rw [C.R]; exact hr.1) (by rw [C.R]; show 2 * 0 + _ + 12 ≤ _; omega) ?_
  exact kk H locs ls hP hD hS h
theorem zcI_eq {g : zGl} {D : va_G} {ty : FieldType} {cA cB : ClassId} {s : State} (h1 : s.vm.findClass ("[" ++ ty.toString) = some cA) (h2 : s.vm.findClass ("[" ++ ty.toString) = some cB) : cA = cB := by rw [h1] at h2; exact Option.some.inj h2
theorem r_newaI (C : zC x cc own nL rm) {n : Int32} {N : Nat} (hd : zd 2 cc pc pc' (.newarray .int)) (hq : Cond.arrayClass .int ∈ TB) (hn : ¬ n < 0 ∧ ix n = N ∧ N * 4 ≤ 536870912) (ca' sl' : Nat) (hcs : ca + 1 = ca' ∧ sl + N = sl' ∧ ca' ≤ rm.cells ∧ sl' ≤ rm.slots) (kk : ∀ q : Nat, vV x nL ca' sl' (ws ++ [(q, .inl ((z_g x).2.1.1, N, .inl (fun _ => 0)))]) pc' lv (.ref q :: st)) : vV x nL ca sl ws pc lv (.int n :: st) := by
  obtain ⟨hd, rfl⟩ := hd
  obtain ⟨rfl, rfl, hc1, hc2⟩ := hcs
  intro H locs ls hP hD hS h
  refine va_newa (atype := .int) (ty := .int) (a0 := (N, .inl (fun _ => 0))) C.ex C.b (C.ts _ hq) rfl C.K hP hD hS C.A (fun _ => rfl) hn.1 hn.2.1 hn.2.2 (by rw [C.R]; exact hc1) (by rw [C.R]; exact hc2) hd (fun q cA H1 hK1 hP1 hD1 hS1 => ?_)
  have e : cA = (z_g x).2.1.1 := by
    have h1 := (hK1.2 4 _ rfl).2
    have h2 := (C.K.2 0 _ rfl).2
    exact zcI_eq (g := z_g x) (D := (z_g x).1) (ty := .int) h1 h2
  subst e
  exact kk q H1 locs ls hP1 hD1 hS1 h
theorem r_newaJ (C : zC x cc own nL rm) {n : Int32} {N : Nat} (hd : zd 2 cc pc pc' (.newarray .long)) (hq : Cond.arrayClass .long ∈ TB) (hn : ¬ n < 0 ∧ ix n = N ∧ N * 8 ≤ 536870912) (ca' sl' : Nat) (hcs : ca + 1 = ca' ∧ sl + N = sl' ∧ ca' ≤ rm.cells ∧ sl' ≤ rm.slots) (kk : ∀ q : Nat, vV x nL ca' sl' (ws ++ [(q, .inl ((z_g x).2.1.2.1, N, .inr (.inl (fun _ => 0))))]) pc' lv (.ref q :: st)) : vV x nL ca sl ws pc lv (.int n :: st) := by
  obtain ⟨hd, rfl⟩ := hd
  obtain ⟨rfl, rfl, hc1, hc2⟩ := hcs
  intro H locs ls hP hD hS h
  refine va_newa (atype := .long) (ty := .long) (a0 := (N, .inr (.inl (fun _ => 0)))) C.ex C.b (C.ts _ hq) rfl C.K hP hD hS C.A (fun _ => rfl) hn.1 hn.2.1 hn.2.2 (by rw [C.R]; exact hc1) (by rw [C.R]; exact hc2) hd (fun q cA H1 hK1 hP1 hD1 hS1 => ?_)
  have e : cA = (z_g x).2.1.2.1 := by
    have h1 := (hK1.2 4 _ rfl).2
    have h2 := (C.K.2 1 _ rfl).2
    exact zcI_eq (g := z_g x) (D := (z_g x).1) (ty := .long) h1 h2
  subst e
  exact kk q H1 locs ls hP1 hD1 hS1 h
theorem r_newaZ (C : zC x cc own nL rm) {n : Int32} {N : Nat} (hd : zd 2 cc pc pc' (.newarray .boolean)) (hq : Cond.arrayClass .boolean ∈ TB) (hn : ¬ n < 0 ∧ ix n = N ∧ N * 1 ≤ 536870912) (ca' sl' : Nat) (hcs : ca + 1 = ca' ∧ sl + N = sl' ∧ ca' ≤ rm.cells ∧ sl' ≤ rm.slots) (kk : ∀ q : Nat, vV x nL ca' sl' (ws ++ [(q, .inl ((z_g x).2.1.2.2.1, N, .inl (fun _ => 0)))]) pc' lv (.ref q :: st)) : vV x nL ca sl ws pc lv (.int n :: st) := by
  obtain ⟨hd, rfl⟩ := hd
  obtain ⟨rfl, rfl, hc1, hc2⟩ := hcs
  intro H locs ls hP hD hS h
  refine va_newa (atype := .boolean) (ty := .boolean) (a0 := (N, .inl (fun _ => 0))) C.ex C.b (C.ts _ hq) rfl C.K hP hD hS C.A (fun _ => rfl) hn.1 hn.2.1 hn.2.2 (by rw [C.R]; exact hc1) (by rw [C.R]; exact hc2) hd (fun q cA H1 hK1 hP1 hD1 hS1 => ?_)
  have e : cA = (z_g x).2.1.2.2.1 := by
    have h1 := (hK1.2 4 _ rfl).2
    have h2 := (C.K.2 2 _ rfl).2
    exact zcI_eq (g := z_g x) (D := (z_g x).1) (ty := .boolean) h1 h2
  subst e
  exact kk q H1 locs ls hP1 hD1 hS1 h
theorem r_newq (C : zC x cc own nL rm) {n : Int32} {N : Nat} (hd : zd 3 cc pc pc' (.anewarray idx)) (hq : Cond.classLink own idx RX7 ∈ TB) (hn : ¬ n < 0 ∧ ix n = N ∧ N * 4 ≤ 536870912) (ca' sl' : Nat) (hcs : ca + 1 = ca' ∧ sl + N = sl' ∧ ca' ≤ rm.cells ∧ sl' ≤ rm.slots) (kk : ∀ q : Nat, vV x nL ca' sl' (ws ++ [(q, .inl ((z_g x).2.1.2.2.2, N, .inr (.inr (.inr (.inr (fun _ => none))))))]) pc' lv (.ref q :: st)) : vV x nL ca sl ws pc lv (.int n :: st) := by
  obtain ⟨hd, rfl⟩ := hd
  obtain ⟨rfl, rfl, hc1, hc2⟩ := hcs
  intro H locs ls hP hD hS h
  refine va_newq C.ex C.b C.own (C.ts _ hq) C.Z.2.2.2.2.2.2 C.K hP hD hS C.A hn.1 hn.2.1 hn.2.2 (by rw [C.R]; exact hc1) (by rw [C.R]; exact hc2) hd (fun q cA H1 hK1 hP1 hD1 hS1 => ?_)
  have e : cA = (z_g x).2.1.2.2.2 := by
    obtain ⟨k1, c1, _, _, _, h1⟩ := (hK1.2 4 _ rfl).2
    obtain ⟨k2, c2, _, _, _, h2⟩ := (C.K.2 3 _ rfl).2
    rw [show RX7 = "AlongsideLines$Ship" from rfl] at h1
    rw [h1] at h2; exact Option.some.inj h2
  subst e
  exact kk q H1 locs ls hP1 hD1 hS1 h
theorem r_aast (C : zC x cc own nL rm) {n b : Nat} {vs : List Value} {f : Nat → Option Nat} {i : Int32} (hd : zd 1 cc pc pc' .aastore) (q0 qk j : Nat) (ha : ws[q0]? = some (a, .inl ((z_g x).2.1.2.2.2, n, .inr (.inr (.inr (.inr f)))))) (hv : ws[qk]? = some (b, .inr (7, vs))) (hj : ¬ i < 0 ∧ ix i = j ∧ j < n) (hw : ws.set q0 (a, .inl ((z_g x).2.1.2.2.2, n, .inr (.inr (.inr (.inr (va_up f j (some b))))))) = ws') (kk : vV x nL ca sl ws' pc' lv st) : vV x nL ca sl ws pc lv (.ref b :: .int i :: .ref a :: st) := by
  obtain ⟨hd, rfl⟩ := hd
  obtain ⟨h1, rfl, h2⟩ := hj
  subst hw
  exact fun H locs ls hP hD hS h => va_astq (r := (RX7, TX7, 18)) C.ex C.b C.K hP hD hS q0 3 qk 7 ha rfl hv rfl (fun h => h.elim h1 (fun h => absurd h2 (Nat.not_lt.mpr h))) hd (fun H1 locs1 hP1 hD1 hS1 => kk H1 locs1 ls hP1 hD1 hS1 h)
theorem r_ctor (C : zC x cc own nL rm) {W' : (Nat → Nat) → va_W} {c : va_E} (hM : zMc (z_l x) y bytes maxL rm' mc ms (z_g x) a [(a, c)] W') (hd : zd 3 cc pc pc' (.invokespecial idx)) (K : zlI own idx y bytes maxL) (hft : (Nat.ble (rm'.frames + 1) rm.frames && Nat.ble (8 + (maxL + 11) + rm'.locals) rm.locals && Nat.beq rm'.cells mc && Nat.beq rm'.slots ms) = true) (hsm : zsm st = true) (ca' sl' : Nat) (hcs : ca + mc = ca' ∧ sl + ms = sl' ∧ ca' ≤ rm.cells ∧ sl' ≤ rm.slots) (kk : ∀ b : Nat → Nat, b 0 = a → vV x nL ca' sl' (ws ++ W' b) pc' lv st) : vV x nL ca sl (ws ++ [(a, c)]) pc lv (.ref a :: st) := by
  obtain ⟨hd, rfl⟩ := hd
  obtain ⟨rfl, rfl, hc1, hc2⟩ := hcs
  simp only [Bool.and_eq_true] at hft
  have f1 := Nat.le_of_ble_eq_true hft.1.1.1
  have f2 := Nat.le_of_ble_eq_true hft.1.1.2
  have f3 := Nat.eq_of_beq_eq_true hft.1.2
  have f4 := Nat.eq_of_beq_eq_true hft.2
  intro H locs ls hP hD hS hl
  have hC : [ws.length].map (fun i => (ws ++ [(a, c)])[i]?) = [(a, c)].map some := by simp
  have hFc := va_free (wc := [(a, c)]) hD hS C.A [ws.length] hC
  have run : va_Run (z_p x) (z_l x) (z_e x) (z_R x) (z_s x) (z_m x) (z_a x) (z_b x) (z_me x) (z_c x) H locs ca sl mc ms (F0 (z_m x) pc ls (.ref a :: st)) st (va_Qv (fun (b : Nat → Nat) => b 0 = a) (fun b t => va_P (z_g x).1 vwCl (W' b) t.heap ∧ va_D (va_A [(a, c)] H.size) (W' b)) (va_A [(a, c)] H.size) (Value.ref a :: ([] : List Value)).toArray) (va_A [(a, c)] H.size) := by
    rcases K.1 with hk | ⟨host, hk⟩
    · exact va_runI (As := []) (rest := st) (g := F0 (z_m x) pc ls (.ref a :: st)) C.fix (hM H.size) ⟨callB_of 0 C.ts (zgood K.2.2.2.1) rfl f3 f4 (C.ts _ K.2.2.1) (C.ts _ hk) K.2.2.2.2.2 (by rw [C.R]; exact ⟨f1, f2⟩), K.2.2.2.2.1, C.ts _ K.2.1⟩ ⟨zPc_blind, zpre C hP hD hS [ws.length] hC rfl _⟩ rfl rfl hl.1 rfl (lv_room (zsm_spec hsm)) hd (by rw [C.R]; exact ⟨hc1, hc2⟩)
    · exact va_runIN (As := []) (rest := st) (g := F0 (z_m x) pc ls (.ref a :: st)) C.fix (hM H.size) ⟨va_cnB 0 C.ts (zgood K.2.2.2.1) rfl f3 f4 (C.Z.1 _ hk) (C.ts _ K.2.2.1) K.2.2.2.2.2 (by rw [C.R]; exact ⟨f1, f2⟩), K.2.2.2.2.1, C.ts _ K.2.1⟩ ⟨zPc_blind, zpre C hP hD hS [ws.length] hC rfl _⟩ rfl rfl hl.1 rfl (lv_room (zsm_spec hsm)) hd (by rw [C.R]; exact ⟨hc1, hc2⟩)
  refine va_callv run hS (fun q _ h => hFc q h) hFc (fun b t H1 locs1 ht hvm hw' hB hz1 hk1 hS1 => ?_)
  obtain ⟨hB1, hB2⟩ := hB
  rw [ht] at hB1
  obtain ⟨hP1, hD1⟩ := zjoinL hP hD hk1 hFc hB1 hB2
  exact kk b hw' H1 locs1 ls hP1 hD1 hS1 hl
end
