/-! CONTRACTS, all over TB; what makes no cell -/
def zB (r : Int32) : Prop := narrow .boolean (.int r) = .int r
theorem zB0 : zB 0 := rfl
theorem zB1 : zB 1 := rfl
abbrev zws (y : MethodName) (cc : ByteArray) (n : Nat) (ret : Option FieldType) : List Cond := Cond.code y cc n ret :: TB
abbrev zPc (g : zGl) (avs : List Value) (ws : va_W) (sz : Nat) : Array Value → State → Prop := va_Pc avs (fun U => U.heap.size = sz ∧ va_P g.1 vwCl ws U.heap ∧ va_K g.1 vwCl (zty g) U ∧ va_D (fun _ => True) ws ∧ zZ g (va_A ws sz) U U.heap)
theorem zPc_blind {g : zGl} {avs : List Value} {ws : va_W} {sz : Nat} : FrameBlind (zPc g avs ws sz) := by
  intro a U gg mk q
  obtain ⟨q0, q1, qP, qK, qD, qZ⟩ := q
  exact ⟨q0, q1, qP, va_K.moved (u := U) (U := U.calling gg mk a) (Vm.Alike.refl U.vm) qK, qD, zZ.same (u := U) rfl qZ⟩
def zMi (l : Launch) (y : MethodName) (cc : ByteArray) (n : Nat) (rm : Room) (g : zGl) (avs : List Value) (ws : va_W) (r : Int32) (ws' : va_W) : Prop :=
  ∀ sz : Nat, Met l y (zws y cc n (some .int)) rm (zPc g avs ws sz) (va_Qi (fun r' (_ : Unit) => r' = r) (fun _ t => va_P g.1 vwCl ws' t.heap) (va_A ws sz)) 0 0 (va_A ws sz)
def zMz (l : Launch) (y : MethodName) (cc : ByteArray) (n : Nat) (rm : Room) (g : zGl) (avs : List Value) (ws : va_W) (r : Int32) (ws' : va_W) : Prop :=
  ∀ sz : Nat, Met l y (zws y cc n (some .boolean)) rm (zPc g avs ws sz) (va_Qi (fun r' (_ : Unit) => r' = r ∧ zB r) (fun _ t => va_P g.1 vwCl ws' t.heap) (va_A ws sz)) 0 0 (va_A ws sz)
def zMl (l : Launch) (y : MethodName) (cc : ByteArray) (n : Nat) (rm : Room) (g : zGl) (avs : List Value) (ws : va_W) (r : Int64) (ws' : va_W) : Prop :=
  ∀ sz : Nat, Met l y (zws y cc n (some .long)) rm (zPc g avs ws sz) (va_Ql (fun r' (_ : Unit) => r' = r) (fun _ t => va_P g.1 vwCl ws' t.heap) (va_A ws sz)) 0 0 (va_A ws sz)
def zMv (l : Launch) (y : MethodName) (cc : ByteArray) (n : Nat) (rm : Room) (g : zGl) (avs : List Value) (ws : va_W) (ws' : va_W) : Prop :=
  ∀ sz : Nat, Met l y (zws y cc n none) rm (zPc g avs ws sz) (va_Qv (fun (_ : Unit) => True) (fun _ t => va_P g.1 vwCl ws' t.heap) (va_A ws sz)) 0 0 (va_A ws sz)
theorem zMi_of {l : Launch} {y : MethodName} {cc : ByteArray} {n : Nat} {rm : Room} {g : zGl} {avs : List Value} {ws : va_W} {r : Int32} {ws' : va_W} {lv : List (Nat × Value)} (hy : plainName y.cls = true) (hsl : (lg_sl avs).length ≤ n) (hlv : lv_args 0 avs = lv)
    (body : ∀ x : zFx, z_l x = l → z_g x = g → zC x cc y.cls n rm → (∀ (pc pc' : Nat) (lv : List (Nat × Value)), zd 1 cc pc pc' .ireturn → vV x n 0 0 ws' pc lv [.int r]) → vV x n 0 0 ws 0 lv []) : zMi l y cc n rm g avs ws r ws' := by
  intro sz
  refine Met.ofW (cc := cc) (maxL := n) (ret := some .int) hy rfl ?_
  intro p e s m args below meth c s₁ B hml hv
  obtain ⟨rfl, hsz, hP, hK, hD0, hZ⟩ := hv
  subst hsz
  have hts := atoms_spec (ws := zws y cc n (some .int)) B.pre
  have hown : s.vm.findClass y.cls = some m.cls := findClass_of_methodNamed B.named
  have hA : ∀ q : Nat, s.heap.size ≤ q → va_A ws s.heap.size q := fun q h => Or.inr h
  have hl := lv_entry avs (n := n) hsl
  rw [lg_entry_eq]
  rw [hlv] at hl
  refine body (p, l, e, (headSpec (zws y cc n (some .int)) rm).room, s, m, avs.toArray, below, meth, c, g, va_A ws s.heap.size, MQ below _ avs.toArray s 0 0 (va_A ws s.heap.size)) rfl rfl ⟨rfl, B.exec, B.bytes, hml, hown, fun w hw => hts w (List.mem_cons_of_mem _ hw), hK, hA, hZ⟩ ?_ s.heap [] _ hP hD0.self va_S.rf hl
  intro pc pc' lv hd H locs ls hP hD hS hl
  exact W.iret B.exec B.bytes B.returns (fun t ht hW => ⟨⟨r, (), rfl, rfl, by show va_P _ _ _ t.heap; rw [ht]; exact hP⟩, hS.F ht⟩) hS.2.2 hd.1 B.notSynchronized
theorem zMz_of {l : Launch} {y : MethodName} {cc : ByteArray} {n : Nat} {rm : Room} {g : zGl} {avs : List Value} {ws : va_W} {r : Int32} {ws' : va_W} {lv : List (Nat × Value)} (hy : plainName y.cls = true) (hsl : (lg_sl avs).length ≤ n) (hlv : lv_args 0 avs = lv)
    (body : ∀ x : zFx, z_l x = l → z_g x = g → zC x cc y.cls n rm → (∀ (pc pc' : Nat) (lv : List (Nat × Value)), zd 1 cc pc pc' .ireturn → zB r → vV x n 0 0 ws' pc lv [.int r]) → vV x n 0 0 ws 0 lv []) : zMz l y cc n rm g avs ws r ws' := by
  intro sz
  refine Met.ofW (cc := cc) (maxL := n) (ret := some .boolean) hy rfl ?_
  intro p e s m args below meth c s₁ B hml hv
  obtain ⟨rfl, hsz, hP, hK, hD0, hZ⟩ := hv
  subst hsz
  have hts := atoms_spec (ws := zws y cc n (some .boolean)) B.pre
  have hown : s.vm.findClass y.cls = some m.cls := findClass_of_methodNamed B.named
  have hA : ∀ q : Nat, s.heap.size ≤ q → va_A ws s.heap.size q := fun q h => Or.inr h
  have hl := lv_entry avs (n := n) hsl
  rw [lg_entry_eq]
  rw [hlv] at hl
  refine body (p, l, e, (headSpec (zws y cc n (some .boolean)) rm).room, s, m, avs.toArray, below, meth, c, g, va_A ws s.heap.size, MQ below _ avs.toArray s 0 0 (va_A ws s.heap.size)) rfl rfl ⟨rfl, B.exec, B.bytes, hml, hown, fun w hw => hts w (List.mem_cons_of_mem _ hw), hK, hA, hZ⟩ ?_ s.heap [] _ hP hD0.self va_S.rf hl
  intro pc pc' lv hd hzb H locs ls hP hD hS hl
  exact W.zret B.exec B.bytes B.returns hzb (fun t ht hW => ⟨⟨r, (), rfl, ⟨rfl, hzb⟩, by show va_P _ _ _ t.heap; rw [ht]; exact hP⟩, hS.F ht⟩) hS.2.2 hd.1 B.notSynchronized
theorem zMl_of {l : Launch} {y : MethodName} {cc : ByteArray} {n : Nat} {rm : Room} {g : zGl} {avs : List Value} {ws : va_W} {r : Int64} {ws' : va_W} {lv : List (Nat × Value)} (hy : plainName y.cls = true) (hsl : (lg_sl avs).length ≤ n) (hlv : lv_args 0 avs = lv)
    (body : ∀ x : zFx, z_l x = l → z_g x = g → zC x cc y.cls n rm → (∀ (pc pc' : Nat) (lv : List (Nat × Value)), zd 1 cc pc pc' .lreturn → vV x n 0 0 ws' pc lv [.long r]) → vV x n 0 0 ws 0 lv []) : zMl l y cc n rm g avs ws r ws' := by
  intro sz
  refine Met.ofW (cc := cc) (maxL := n) (ret := some .long) hy rfl ?_
  intro p e s m args below meth c s₁ B hml hv
  obtain ⟨rfl, hsz, hP, hK, hD0, hZ⟩ := hv
  subst hsz
  have hts := atoms_spec (ws := zws y cc n (some .long)) B.pre
  have hown : s.vm.findClass y.cls = some m.cls := findClass_of_methodNamed B.named
  have hA : ∀ q : Nat, s.heap.size ≤ q → va_A ws s.heap.size q := fun q h => Or.inr h
  have hl := lv_entry avs (n := n) hsl
  rw [lg_entry_eq]
  rw [hlv] at hl
  refine body (p, l, e, (headSpec (zws y cc n (some .long)) rm).room, s, m, avs.toArray, below, meth, c, g, va_A ws s.heap.size, MQ below _ avs.toArray s 0 0 (va_A ws s.heap.size)) rfl rfl ⟨rfl, B.exec, B.bytes, hml, hown, fun w hw => hts w (List.mem_cons_of_mem _ hw), hK, hA, hZ⟩ ?_ s.heap [] _ hP hD0.self va_S.rf hl
  intro pc pc' lv hd H locs ls hP hD hS hl
  exact W.lret B.exec B.bytes B.returns (fun t ht hW => ⟨⟨r, (), rfl, rfl, by show va_P _ _ _ t.heap; rw [ht]; exact hP⟩, hS.F ht⟩) hS.2.2 hd.1 B.notSynchronized
theorem zMv_of {l : Launch} {y : MethodName} {cc : ByteArray} {n : Nat} {rm : Room} {g : zGl} {avs : List Value} {ws : va_W}  {ws' : va_W} {lv : List (Nat × Value)} (hy : plainName y.cls = true) (hsl : (lg_sl avs).length ≤ n) (hlv : lv_args 0 avs = lv)
    (body : ∀ x : zFx, z_l x = l → z_g x = g → zC x cc y.cls n rm → (∀ (pc pc' : Nat) (lv : List (Nat × Value)), zd 1 cc pc pc' .return_ → vV x n 0 0 ws' pc lv []) → vV x n 0 0 ws 0 lv []) : zMv l y cc n rm g avs ws  ws' := by
  intro sz
  refine Met.ofW (cc := cc) (maxL := n) (ret := none) hy rfl ?_
  intro p e s m args below meth c s₁ B hml hv
  obtain ⟨rfl, hsz, hP, hK, hD0, hZ⟩ := hv
  subst hsz
  have hts := atoms_spec (ws := zws y cc n (none)) B.pre
  have hown : s.vm.findClass y.cls = some m.cls := findClass_of_methodNamed B.named
  have hA : ∀ q : Nat, s.heap.size ≤ q → va_A ws s.heap.size q := fun q h => Or.inr h
  have hl := lv_entry avs (n := n) hsl
  rw [lg_entry_eq]
  rw [hlv] at hl
  refine body (p, l, e, (headSpec (zws y cc n (none)) rm).room, s, m, avs.toArray, below, meth, c, g, va_A ws s.heap.size, MQ below _ avs.toArray s 0 0 (va_A ws s.heap.size)) rfl rfl ⟨rfl, B.exec, B.bytes, hml, hown, fun w hw => hts w (List.mem_cons_of_mem _ hw), hK, hA, hZ⟩ ?_ s.heap [] _ hP hD0.self va_S.rf hl
  intro pc pc' lv hd H locs ls hP hD hS hl
  exact W.vret B.exec B.bytes B.returns (fun t ht hW => ⟨⟨(), rfl, trivial, by show va_P _ _ _ t.heap; rw [ht]; exact hP⟩, hS.F ht⟩) hS.2.2 hd.1 B.notSynchronized
/-! CALLS -/
def zlD (y : MethodName) (k : Nat) : Prop := y.cls ≠ "java/lang/invoke/MethodHandle" ∧ y.cls ≠ "java/lang/invoke/VarHandle" ∧ (parseMethodDescriptor y.desc).map (fun d => d.parameters.length) = some k
def zlV (own : String) (idx : Nat) (y : MethodName) (cc : ByteArray) (n : Nat) (ret : Option FieldType) (k : Nat) : Prop := Cond.methodLink own idx y ∈ TB ∧ Cond.instanceMethod y ∈ TB ∧ Cond.selects y.cls y y ∈ TB ∧ Cond.initialized y.cls ∈ TB ∧ Cond.code y cc n ret ∈ TB ∧ zlD y k
def zlS (own : String) (idx : Nat) (y : MethodName) (cc : ByteArray) (n : Nat) (ret : Option FieldType) (k : Nat) : Prop := Cond.methodLink own idx y ∈ TB ∧ Cond.static y ∈ TB ∧ Cond.initialized y.cls ∈ TB ∧ Cond.code y cc n ret ∈ TB ∧ zlD y k
def zlN (own : String) (idx : Nat) (y : MethodName) (cc : ByteArray) (n : Nat) (ret : Option FieldType) (k : Nat) : Prop := (∃ host, Cond.methodLinkNest own idx y host ∈ NB) ∧ Cond.static y ∈ TB ∧ Cond.initialized y.cls ∈ TB ∧ Cond.code y cc n ret ∈ TB ∧ zlD y k
theorem zgood {y : MethodName} {cc : ByteArray} {n : Nat} {ret : Option FieldType} (h : Cond.code y cc n ret ∈ TB) : GoodIn TB (zws y cc n ret) := fun w hw => (List.mem_cons.mp hw).elim (fun e => e ▸ ⟨h, good_of_word (TB_good _ h)⟩) (fun h => ⟨h, good_of_word (TB_good _ h)⟩)
/-- the callee's room fits -/
def zfit (R r : Room) (n : Nat) : Bool := Nat.ble (r.frames + 1) R.frames && Nat.ble (8 + (n + 11) + r.locals) R.locals && Nat.beq r.cells 0 && Nat.beq r.slots 0
theorem zfit_spec {R r : Room} {n : Nat} (h : zfit R r n = true) : r.frames + 1 ≤ R.frames ∧ 8 + (n + 11) + r.locals ≤ R.locals ∧ r.cells = 0 ∧ r.slots = 0 := by
  simp only [zfit, Bool.and_eq_true] at h
  exact ⟨Nat.le_of_ble_eq_true h.1.1.1, Nat.le_of_ble_eq_true h.1.1.2, Nat.eq_of_beq_eq_true h.1.2, Nat.eq_of_beq_eq_true h.2⟩
/-- the stack below is small -/
def zsm (st : List Value) : Bool := Nat.ble ((st.map fun v => v.category).sum) 8
theorem zsm_spec {st : List Value} (h : zsm st = true) : (st.map fun v => v.category).sum ≤ 8 := Nat.le_of_ble_eq_true h
def zrcv (ws : va_W) (b : Nat) (C : String) : Prop := ∃ (q ci : Nat) (fs : List Value) (r : vw_C), vwCl[ci]? = some r ∧ r.1 = C ∧ ws[q]? = some (b, .inr (ci, fs))
section
variable {x : zFx} {rm rm' : Room} {cc bytes : ByteArray} {own : String} {nL maxL ca sl pc pc' idx n b : Nat} {ws ws' wc wc' : va_W} {lv : List (Nat × Value)} {st stk As : List Value} {y : MethodName} {ret : Option FieldType}
theorem zpre (C : zC x cc own nL rm) {H : Heap} {locs : List Loc} (hP : va_P (z_g x).1 vwCl ws H) (hD : va_D (z_A x) ws) (hS : va_S (z_A x) (z_s x).heap H locs) (ps : List Nat) (hC : ps.map (fun i => ws[i]?) = wc.map some) (hnd : va_nd ps = true) (avs : List Value) :
    ∀ U : State, U.heap = H → (z_s x).WarmedH U.vm → zPc (z_g x) avs wc H.size avs.toArray U := by
  intro U hU hW
  have hFc := va_free (wc := wc) hD hS C.A ps hC
  have hPc : va_P (z_g x).1 vwCl wc H := hP.sub ps (zfm _ ps wc hC)
  have hDc := hD.sub ps hnd hC
  refine ⟨rfl, by rw [hU], by rw [hU]; exact hPc, va_K.moved hW.alike C.K, hDc.weaken (fun _ _ _ _ => trivial), ?_⟩
  rw [hU]
  exact (((C.Z).kept (fun a ha hna => hS.2.1 a ha hna)).narrow hFc).warm hW
theorem r_V_i (C : zC x cc own nL rm) {r : Int32} (hM : zMi (z_l x) y bytes maxL rm' (z_g x) (.ref b :: As) wc r wc') (hd : zd 3 cc pc pc' (.invokevirtual idx)) (K : zlV own idx y bytes maxL (some .int) n) (hrc : zrcv wc b y.cls) (ps : List Nat) (hn : As.length = n) (hstk : stk = As.reverse ++ .ref b :: st) (hC : ps.map (fun i => ws[i]?) = wc.map some) (hnd : va_nd ps = true) (rs : List Nat) (hC' : ps.map (fun i => ws'[i]?) = wc'.map some) (hR : zsame ws ws' rs) (nw : Nat) (hnw : ws'.length = nw) (hcov : (zcov nw ps rs && rs.all (fun i => !ps.contains i)) = true) (hfs : ws'.map Prod.fst = ws.map Prod.fst) (hft : zfit rm rm' maxL = true) (hsm : zsm st = true) (hcs : (Nat.ble ca rm.cells && Nat.ble sl rm.slots) = true)
    (kk : vV x nL ca sl ws' pc' lv (.int r :: st)) : vV x nL ca sl ws pc lv stk := by
  obtain ⟨hd, rfl⟩ := hd
  intro H locs ls hP hD hS hl
  have hf := zfit_spec hft
  have hca : ca + 0 ≤ rm.cells := Nat.le_of_ble_eq_true (Bool.and_eq_true_iff.mp hcs).1
  have hsl : sl + 0 ≤ rm.slots := Nat.le_of_ble_eq_true (Bool.and_eq_true_iff.mp hcs).2
  have hFc := va_free (wc := wc) hD hS C.A ps hC
  have hrv : ∃ cell : Cell, H[b]? = some cell ∧ cell.vm.isStatics = false ∧ (z_s x).vm.findClass y.cls = some cell.cls := by
    obtain ⟨q, ci, fs, r, h1, h2, h3⟩ := hrc
    rw [← h2]
    exact va_recv C.K (hP.sub (ws' := wc) ps (zfm _ ps wc hC)) h1 h3
  refine va_calli (va_runV (As := As) (rest := st) (g := F0 (z_m x) pc ls stk) C.fix (hM H.size) ⟨callB_of n C.ts (zgood K.2.2.2.2.1) rfl hf.2.2.1 hf.2.2.2 (C.ts _ K.2.2.2.1) (C.ts _ K.1) K.2.2.2.2.2 (by rw [C.R]; exact ⟨hf.1, hf.2.1⟩), C.ts _ K.2.1, C.ts _ K.2.2.1⟩ ⟨zPc_blind, hrv, zpre C hP hD hS ps hC hnd _⟩ rfl hn hl.1 hstk (lv_room (zsm_spec hsm)) hd (by rw [C.R]; exact ⟨hca, hsl⟩)) hS (fun q _ h => hFc q h) hFc (fun r' u t H1 locs1 ht hvm hw' hB hz1 hk1 hS1 => ?_)
  obtain rfl := hw'
  rw [ht] at hB
  obtain ⟨hP1, hD1⟩ := zback hP hD ps rs hC hC' (zsame_map hR) nw hnw (Bool.and_eq_true_iff.mp hcov).1 hfs (fun i hi hp => by have h8 := List.all_eq_true.mp (Bool.and_eq_true_iff.mp hcov).2 i hi; rw [List.contains_iff_mem.mpr hp] at h8; cases h8) hk1 hB
  exact kk H1 locs1 ls hP1 hD1 hS1 hl
theorem r_V_z (C : zC x cc own nL rm) {r : Int32} (hM : zMz (z_l x) y bytes maxL rm' (z_g x) (.ref b :: As) wc r wc') (hd : zd 3 cc pc pc' (.invokevirtual idx)) (K : zlV own idx y bytes maxL (some .boolean) n) (hrc : zrcv wc b y.cls) (ps : List Nat) (hn : As.length = n) (hstk : stk = As.reverse ++ .ref b :: st) (hC : ps.map (fun i => ws[i]?) = wc.map some) (hnd : va_nd ps = true) (rs : List Nat) (hC' : ps.map (fun i => ws'[i]?) = wc'.map some) (hR : zsame ws ws' rs) (nw : Nat) (hnw : ws'.length = nw) (hcov : (zcov nw ps rs && rs.all (fun i => !ps.contains i)) = true) (hfs : ws'.map Prod.fst = ws.map Prod.fst) (hft : zfit rm rm' maxL = true) (hsm : zsm st = true) (hcs : (Nat.ble ca rm.cells && Nat.ble sl rm.slots) = true)
    (kk : zB r → vV x nL ca sl ws' pc' lv (.int r :: st)) : vV x nL ca sl ws pc lv stk := by
  obtain ⟨hd, rfl⟩ := hd
  intro H locs ls hP hD hS hl
  have hf := zfit_spec hft
  have hca : ca + 0 ≤ rm.cells := Nat.le_of_ble_eq_true (Bool.and_eq_true_iff.mp hcs).1
  have hsl : sl + 0 ≤ rm.slots := Nat.le_of_ble_eq_true (Bool.and_eq_true_iff.mp hcs).2
  have hFc := va_free (wc := wc) hD hS C.A ps hC
  have hrv : ∃ cell : Cell, H[b]? = some cell ∧ cell.vm.isStatics = false ∧ (z_s x).vm.findClass y.cls = some cell.cls := by
    obtain ⟨q, ci, fs, r, h1, h2, h3⟩ := hrc
    rw [← h2]
    exact va_recv C.K (hP.sub (ws' := wc) ps (zfm _ ps wc hC)) h1 h3
  refine va_calli (va_runV (As := As) (rest := st) (g := F0 (z_m x) pc ls stk) C.fix (hM H.size) ⟨callB_of n C.ts (zgood K.2.2.2.2.1) rfl hf.2.2.1 hf.2.2.2 (C.ts _ K.2.2.2.1) (C.ts _ K.1) K.2.2.2.2.2 (by rw [C.R]; exact ⟨hf.1, hf.2.1⟩), C.ts _ K.2.1, C.ts _ K.2.2.1⟩ ⟨zPc_blind, hrv, zpre C hP hD hS ps hC hnd _⟩ rfl hn hl.1 hstk (lv_room (zsm_spec hsm)) hd (by rw [C.R]; exact ⟨hca, hsl⟩)) hS (fun q _ h => hFc q h) hFc (fun r' u t H1 locs1 ht hvm hw' hB hz1 hk1 hS1 => ?_)
  obtain ⟨rfl, hzb⟩ := hw'
  rw [ht] at hB
  obtain ⟨hP1, hD1⟩ := zback hP hD ps rs hC hC' (zsame_map hR) nw hnw (Bool.and_eq_true_iff.mp hcov).1 hfs (fun i hi hp => by have h8 := List.all_eq_true.mp (Bool.and_eq_true_iff.mp hcov).2 i hi; rw [List.contains_iff_mem.mpr hp] at h8; cases h8) hk1 hB
  exact kk hzb H1 locs1 ls hP1 hD1 hS1 hl
theorem r_V_l (C : zC x cc own nL rm) {r : Int64} (hM : zMl (z_l x) y bytes maxL rm' (z_g x) (.ref b :: As) wc r wc') (hd : zd 3 cc pc pc' (.invokevirtual idx)) (K : zlV own idx y bytes maxL (some .long) n) (hrc : zrcv wc b y.cls) (ps : List Nat) (hn : As.length = n) (hstk : stk = As.reverse ++ .ref b :: st) (hC : ps.map (fun i => ws[i]?) = wc.map some) (hnd : va_nd ps = true) (rs : List Nat) (hC' : ps.map (fun i => ws'[i]?) = wc'.map some) (hR : zsame ws ws' rs) (nw : Nat) (hnw : ws'.length = nw) (hcov : (zcov nw ps rs && rs.all (fun i => !ps.contains i)) = true) (hfs : ws'.map Prod.fst = ws.map Prod.fst) (hft : zfit rm rm' maxL = true) (hsm : zsm st = true) (hcs : (Nat.ble ca rm.cells && Nat.ble sl rm.slots) = true)
    (kk : vV x nL ca sl ws' pc' lv (.long r :: st)) : vV x nL ca sl ws pc lv stk := by
  obtain ⟨hd, rfl⟩ := hd
  intro H locs ls hP hD hS hl
  have hf := zfit_spec hft
  have hca : ca + 0 ≤ rm.cells := Nat.le_of_ble_eq_true (Bool.and_eq_true_iff.mp hcs).1
  have hsl : sl + 0 ≤ rm.slots := Nat.le_of_ble_eq_true (Bool.and_eq_true_iff.mp hcs).2
  have hFc := va_free (wc := wc) hD hS C.A ps hC
  have hrv : ∃ cell : Cell, H[b]? = some cell ∧ cell.vm.isStatics = false ∧ (z_s x).vm.findClass y.cls = some cell.cls := by
    obtain ⟨q, ci, fs, r, h1, h2, h3⟩ := hrc
    rw [← h2]
    exact va_recv C.K (hP.sub (ws' := wc) ps (zfm _ ps wc hC)) h1 h3
  refine va_calll (va_runV (As := As) (rest := st) (g := F0 (z_m x) pc ls stk) C.fix (hM H.size) ⟨callB_of n C.ts (zgood K.2.2.2.2.1) rfl hf.2.2.1 hf.2.2.2 (C.ts _ K.2.2.2.1) (C.ts _ K.1) K.2.2.2.2.2 (by rw [C.R]; exact ⟨hf.1, hf.2.1⟩), C.ts _ K.2.1, C.ts _ K.2.2.1⟩ ⟨zPc_blind, hrv, zpre C hP hD hS ps hC hnd _⟩ rfl hn hl.1 hstk (lv_room (zsm_spec hsm)) hd (by rw [C.R]; exact ⟨hca, hsl⟩)) hS (fun q _ h => hFc q h) hFc (fun r' u t H1 locs1 ht hvm hw' hB hz1 hk1 hS1 => ?_)
  obtain rfl := hw'
  rw [ht] at hB
  obtain ⟨hP1, hD1⟩ := zback hP hD ps rs hC hC' (zsame_map hR) nw hnw (Bool.and_eq_true_iff.mp hcov).1 hfs (fun i hi hp => by have h8 := List.all_eq_true.mp (Bool.and_eq_true_iff.mp hcov).2 i hi; rw [List.contains_iff_mem.mpr hp] at h8; cases h8) hk1 hB
  exact kk H1 locs1 ls hP1 hD1 hS1 hl
theorem r_V_v (C : zC x cc own nL rm) (hM : zMv (z_l x) y bytes maxL rm' (z_g x) (.ref b :: As) wc  wc') (hd : zd 3 cc pc pc' (.invokevirtual idx)) (K : zlV own idx y bytes maxL (none) n) (hrc : zrcv wc b y.cls) (ps : List Nat) (hn : As.length = n) (hstk : stk = As.reverse ++ .ref b :: st) (hC : ps.map (fun i => ws[i]?) = wc.map some) (hnd : va_nd ps = true) (rs : List Nat) (hC' : ps.map (fun i => ws'[i]?) = wc'.map some) (hR : zsame ws ws' rs) (nw : Nat) (hnw : ws'.length = nw) (hcov : (zcov nw ps rs && rs.all (fun i => !ps.contains i)) = true) (hfs : ws'.map Prod.fst = ws.map Prod.fst) (hft : zfit rm rm' maxL = true) (hsm : zsm st = true) (hcs : (Nat.ble ca rm.cells && Nat.ble sl rm.slots) = true)
    (kk : vV x nL ca sl ws' pc' lv (st)) : vV x nL ca sl ws pc lv stk := by
  obtain ⟨hd, rfl⟩ := hd
  intro H locs ls hP hD hS hl
  have hf := zfit_spec hft
  have hca : ca + 0 ≤ rm.cells := Nat.le_of_ble_eq_true (Bool.and_eq_true_iff.mp hcs).1
  have hsl : sl + 0 ≤ rm.slots := Nat.le_of_ble_eq_true (Bool.and_eq_true_iff.mp hcs).2
  have hFc := va_free (wc := wc) hD hS C.A ps hC
  have hrv : ∃ cell : Cell, H[b]? = some cell ∧ cell.vm.isStatics = false ∧ (z_s x).vm.findClass y.cls = some cell.cls := by
    obtain ⟨q, ci, fs, r, h1, h2, h3⟩ := hrc
    rw [← h2]
    exact va_recv C.K (hP.sub (ws' := wc) ps (zfm _ ps wc hC)) h1 h3
  refine va_callv (va_runV (As := As) (rest := st) (g := F0 (z_m x) pc ls stk) C.fix (hM H.size) ⟨callB_of n C.ts (zgood K.2.2.2.2.1) rfl hf.2.2.1 hf.2.2.2 (C.ts _ K.2.2.2.1) (C.ts _ K.1) K.2.2.2.2.2 (by rw [C.R]; exact ⟨hf.1, hf.2.1⟩), C.ts _ K.2.1, C.ts _ K.2.2.1⟩ ⟨zPc_blind, hrv, zpre C hP hD hS ps hC hnd _⟩ rfl hn hl.1 hstk (lv_room (zsm_spec hsm)) hd (by rw [C.R]; exact ⟨hca, hsl⟩)) hS (fun q _ h => hFc q h) hFc (fun u t H1 locs1 ht hvm hw' hB hz1 hk1 hS1 => ?_)
  clear hw'
  rw [ht] at hB
  obtain ⟨hP1, hD1⟩ := zback hP hD ps rs hC hC' (zsame_map hR) nw hnw (Bool.and_eq_true_iff.mp hcov).1 hfs (fun i hi hp => by have h8 := List.all_eq_true.mp (Bool.and_eq_true_iff.mp hcov).2 i hi; rw [List.contains_iff_mem.mpr hp] at h8; cases h8) hk1 hB
  exact kk H1 locs1 ls hP1 hD1 hS1 hl
theorem r_S_i (C : zC x cc own nL rm) {r : Int32} (hM : zMi (z_l x) y bytes maxL rm' (z_g x) (As) wc r wc') (hd : zd 3 cc pc pc' (.invokestatic idx)) (K : zlS own idx y bytes maxL (some .int) n) (ps : List Nat) (hn : As.length = n) (hstk : stk = As.reverse ++ st) (hC : ps.map (fun i => ws[i]?) = wc.map some) (hnd : va_nd ps = true) (rs : List Nat) (hC' : ps.map (fun i => ws'[i]?) = wc'.map some) (hR : zsame ws ws' rs) (nw : Nat) (hnw : ws'.length = nw) (hcov : (zcov nw ps rs && rs.all (fun i => !ps.contains i)) = true) (hfs : ws'.map Prod.fst = ws.map Prod.fst) (hft : zfit rm rm' maxL = true) (hsm : zsm st = true) (hcs : (Nat.ble ca rm.cells && Nat.ble sl rm.slots) = true)
    (kk : vV x nL ca sl ws' pc' lv (.int r :: st)) : vV x nL ca sl ws pc lv stk := by
  obtain ⟨hd, rfl⟩ := hd
  intro H locs ls hP hD hS hl
  have hf := zfit_spec hft
  have hca : ca + 0 ≤ rm.cells := Nat.le_of_ble_eq_true (Bool.and_eq_true_iff.mp hcs).1
  have hsl : sl + 0 ≤ rm.slots := Nat.le_of_ble_eq_true (Bool.and_eq_true_iff.mp hcs).2
  have hFc := va_free (wc := wc) hD hS C.A ps hC
  refine va_calli (va_runS (As := As) (rest := st) (g := F0 (z_m x) pc ls stk) C.fix (hM H.size) ⟨callB_of n C.ts (zgood K.2.2.2.1) rfl hf.2.2.1 hf.2.2.2 (C.ts _ K.2.2.1) (C.ts _ K.1) K.2.2.2.2 (by rw [C.R]; exact ⟨hf.1, hf.2.1⟩), C.ts _ K.2.1⟩ ⟨zPc_blind, zpre C hP hD hS ps hC hnd _⟩ rfl hn hl.1 hstk (lv_room (zsm_spec hsm)) hd (by rw [C.R]; exact ⟨hca, hsl⟩)) hS (fun q _ h => hFc q h) hFc (fun r' u t H1 locs1 ht hvm hw' hB hz1 hk1 hS1 => ?_)
  obtain rfl := hw'
  rw [ht] at hB
  obtain ⟨hP1, hD1⟩ := zback hP hD ps rs hC hC' (zsame_map hR) nw hnw (Bool.and_eq_true_iff.mp hcov).1 hfs (fun i hi hp => by have h8 := List.all_eq_true.mp (Bool.and_eq_true_iff.mp hcov).2 i hi; rw [List.contains_iff_mem.mpr hp] at h8; cases h8) hk1 hB
  exact kk H1 locs1 ls hP1 hD1 hS1 hl
theorem r_S_z (C : zC x cc own nL rm) {r : Int32} (hM : zMz (z_l x) y bytes maxL rm' (z_g x) (As) wc r wc') (hd : zd 3 cc pc pc' (.invokestatic idx)) (K : zlS own idx y bytes maxL (some .boolean) n) (ps : List Nat) (hn : As.length = n) (hstk : stk = As.reverse ++ st) (hC : ps.map (fun i => ws[i]?) = wc.map some) (hnd : va_nd ps = true) (rs : List Nat) (hC' : ps.map (fun i => ws'[i]?) = wc'.map some) (hR : zsame ws ws' rs) (nw : Nat) (hnw : ws'.length = nw) (hcov : (zcov nw ps rs && rs.all (fun i => !ps.contains i)) = true) (hfs : ws'.map Prod.fst = ws.map Prod.fst) (hft : zfit rm rm' maxL = true) (hsm : zsm st = true) (hcs : (Nat.ble ca rm.cells && Nat.ble sl rm.slots) = true)
    (kk : zB r → vV x nL ca sl ws' pc' lv (.int r :: st)) : vV x nL ca sl ws pc lv stk := by
  obtain ⟨hd, rfl⟩ := hd
  intro H locs ls hP hD hS hl
  have hf := zfit_spec hft
  have hca : ca + 0 ≤ rm.cells := Nat.le_of_ble_eq_true (Bool.and_eq_true_iff.mp hcs).1
  have hsl : sl + 0 ≤ rm.slots := Nat.le_of_ble_eq_true (Bool.and_eq_true_iff.mp hcs).2
  have hFc := va_free (wc := wc) hD hS C.A ps hC
  refine va_calli (va_runS (As := As) (rest := st) (g := F0 (z_m x) pc ls stk) C.fix (hM H.size) ⟨callB_of n C.ts (zgood K.2.2.2.1) rfl hf.2.2.1 hf.2.2.2 (C.ts _ K.2.2.1) (C.ts _ K.1) K.2.2.2.2 (by rw [C.R]; exact ⟨hf.1, hf.2.1⟩), C.ts _ K.2.1⟩ ⟨zPc_blind, zpre C hP hD hS ps hC hnd _⟩ rfl hn hl.1 hstk (lv_room (zsm_spec hsm)) hd (by rw [C.R]; exact ⟨hca, hsl⟩)) hS (fun q _ h => hFc q h) hFc (fun r' u t H1 locs1 ht hvm hw' hB hz1 hk1 hS1 => ?_)
  obtain ⟨rfl, hzb⟩ := hw'
  rw [ht] at hB
  obtain ⟨hP1, hD1⟩ := zback hP hD ps rs hC hC' (zsame_map hR) nw hnw (Bool.and_eq_true_iff.mp hcov).1 hfs (fun i hi hp => by have h8 := List.all_eq_true.mp (Bool.and_eq_true_iff.mp hcov).2 i hi; rw [List.contains_iff_mem.mpr hp] at h8; cases h8) hk1 hB
  exact kk hzb H1 locs1 ls hP1 hD1 hS1 hl
theorem r_S_l (C : zC x cc own nL rm) {r : Int64} (hM : zMl (z_l x) y bytes maxL rm' (z_g x) (As) wc r wc') (hd : zd 3 cc pc pc' (.invokestatic idx)) (K : zlS own idx y bytes maxL (some .long) n) (ps : List Nat) (hn : As.length = n) (hstk : stk = As.reverse ++ st) (hC : ps.map (fun i => ws[i]?) = wc.map some) (hnd : va_nd ps = true) (rs : List Nat) (hC' : ps.map (fun i => ws'[i]?) = wc'.map some) (hR : zsame ws ws' rs) (nw : Nat) (hnw : ws'.length = nw) (hcov : (zcov nw ps rs && rs.all (fun i => !ps.contains i)) = true) (hfs : ws'.map Prod.fst = ws.map Prod.fst) (hft : zfit rm rm' maxL = true) (hsm : zsm st = true) (hcs : (Nat.ble ca rm.cells && Nat.ble sl rm.slots) = true)
    (kk : vV x nL ca sl ws' pc' lv (.long r :: st)) : vV x nL ca sl ws pc lv stk := by
  obtain ⟨hd, rfl⟩ := hd
  intro H locs ls hP hD hS hl
  have hf := zfit_spec hft
  have hca : ca + 0 ≤ rm.cells := Nat.le_of_ble_eq_true (Bool.and_eq_true_iff.mp hcs).1
  have hsl : sl + 0 ≤ rm.slots := Nat.le_of_ble_eq_true (Bool.and_eq_true_iff.mp hcs).2
  have hFc := va_free (wc := wc) hD hS C.A ps hC
  refine va_calll (va_runS (As := As) (rest := st) (g := F0 (z_m x) pc ls stk) C.fix (hM H.size) ⟨callB_of n C.ts (zgood K.2.2.2.1) rfl hf.2.2.1 hf.2.2.2 (C.ts _ K.2.2.1) (C.ts _ K.1) K.2.2.2.2 (by rw [C.R]; exact ⟨hf.1, hf.2.1⟩), C.ts _ K.2.1⟩ ⟨zPc_blind, zpre C hP hD hS ps hC hnd _⟩ rfl hn hl.1 hstk (lv_room (zsm_spec hsm)) hd (by rw [C.R]; exact ⟨hca, hsl⟩)) hS (fun q _ h => hFc q h) hFc (fun r' u t H1 locs1 ht hvm hw' hB hz1 hk1 hS1 => ?_)
  obtain rfl := hw'
  rw [ht] at hB
  obtain ⟨hP1, hD1⟩ := zback hP hD ps rs hC hC' (zsame_map hR) nw hnw (Bool.and_eq_true_iff.mp hcov).1 hfs (fun i hi hp => by have h8 := List.all_eq_true.mp (Bool.and_eq_true_iff.mp hcov).2 i hi; rw [List.contains_iff_mem.mpr hp] at h8; cases h8) hk1 hB
  exact kk H1 locs1 ls hP1 hD1 hS1 hl
theorem r_S_v (C : zC x cc own nL rm) (hM : zMv (z_l x) y bytes maxL rm' (z_g x) (As) wc  wc') (hd : zd 3 cc pc pc' (.invokestatic idx)) (K : zlS own idx y bytes maxL (none) n) (ps : List Nat) (hn : As.length = n) (hstk : stk = As.reverse ++ st) (hC : ps.map (fun i => ws[i]?) = wc.map some) (hnd : va_nd ps = true) (rs : List Nat) (hC' : ps.map (fun i => ws'[i]?) = wc'.map some) (hR : zsame ws ws' rs) (nw : Nat) (hnw : ws'.length = nw) (hcov : (zcov nw ps rs && rs.all (fun i => !ps.contains i)) = true) (hfs : ws'.map Prod.fst = ws.map Prod.fst) (hft : zfit rm rm' maxL = true) (hsm : zsm st = true) (hcs : (Nat.ble ca rm.cells && Nat.ble sl rm.slots) = true)
    (kk : vV x nL ca sl ws' pc' lv (st)) : vV x nL ca sl ws pc lv stk := by
  obtain ⟨hd, rfl⟩ := hd
  intro H locs ls hP hD hS hl
  have hf := zfit_spec hft
  have hca : ca + 0 ≤ rm.cells := Nat.le_of_ble_eq_true (Bool.and_eq_true_iff.mp hcs).1
  have hsl : sl + 0 ≤ rm.slots := Nat.le_of_ble_eq_true (Bool.and_eq_true_iff.mp hcs).2
  have hFc := va_free (wc := wc) hD hS C.A ps hC
  refine va_callv (va_runS (As := As) (rest := st) (g := F0 (z_m x) pc ls stk) C.fix (hM H.size) ⟨callB_of n C.ts (zgood K.2.2.2.1) rfl hf.2.2.1 hf.2.2.2 (C.ts _ K.2.2.1) (C.ts _ K.1) K.2.2.2.2 (by rw [C.R]; exact ⟨hf.1, hf.2.1⟩), C.ts _ K.2.1⟩ ⟨zPc_blind, zpre C hP hD hS ps hC hnd _⟩ rfl hn hl.1 hstk (lv_room (zsm_spec hsm)) hd (by rw [C.R]; exact ⟨hca, hsl⟩)) hS (fun q _ h => hFc q h) hFc (fun u t H1 locs1 ht hvm hw' hB hz1 hk1 hS1 => ?_)
  clear hw'
  rw [ht] at hB
  obtain ⟨hP1, hD1⟩ := zback hP hD ps rs hC hC' (zsame_map hR) nw hnw (Bool.and_eq_true_iff.mp hcov).1 hfs (fun i hi hp => by have h8 := List.all_eq_true.mp (Bool.and_eq_true_iff.mp hcov).2 i hi; rw [List.contains_iff_mem.mpr hp] at h8; cases h8) hk1 hB
  exact kk H1 locs1 ls hP1 hD1 hS1 hl
theorem r_N_i (C : zC x cc own nL rm) {r : Int32} (hM : zMi (z_l x) y bytes maxL rm' (z_g x) (As) wc r wc') (hd : zd 3 cc pc pc' (.invokestatic idx)) (K : zlN own idx y bytes maxL (some .int) n) (ps : List Nat) (hn : As.length = n) (hstk : stk = As.reverse ++ st) (hC : ps.map (fun i => ws[i]?) = wc.map some) (hnd : va_nd ps = true) (rs : List Nat) (hC' : ps.map (fun i => ws'[i]?) = wc'.map some) (hR : zsame ws ws' rs) (nw : Nat) (hnw : ws'.length = nw) (hcov : (zcov nw ps rs && rs.all (fun i => !ps.contains i)) = true) (hfs : ws'.map Prod.fst = ws.map Prod.fst) (hft : zfit rm rm' maxL = true) (hsm : zsm st = true) (hcs : (Nat.ble ca rm.cells && Nat.ble sl rm.slots) = true)
    (kk : vV x nL ca sl ws' pc' lv (.int r :: st)) : vV x nL ca sl ws pc lv stk := by
  obtain ⟨hd, rfl⟩ := hd
  intro H locs ls hP hD hS hl
  have hf := zfit_spec hft
  have hca : ca + 0 ≤ rm.cells := Nat.le_of_ble_eq_true (Bool.and_eq_true_iff.mp hcs).1
  have hsl : sl + 0 ≤ rm.slots := Nat.le_of_ble_eq_true (Bool.and_eq_true_iff.mp hcs).2
  have hFc := va_free (wc := wc) hD hS C.A ps hC
  obtain ⟨host, hnb⟩ := K.1
  refine va_calli (va_runSN (As := As) (rest := st) (g := F0 (z_m x) pc ls stk) C.fix (hM H.size) ⟨va_cnB n C.ts (zgood K.2.2.2.1) rfl hf.2.2.1 hf.2.2.2 (C.Z.1 _ hnb) (C.ts _ K.2.2.1) K.2.2.2.2 (by rw [C.R]; exact ⟨hf.1, hf.2.1⟩), C.ts _ K.2.1, trivial⟩ ⟨zPc_blind, zpre C hP hD hS ps hC hnd _⟩ rfl hn hl.1 hstk (lv_room (zsm_spec hsm)) hd (by rw [C.R]; exact ⟨hca, hsl⟩)) hS (fun q _ h => hFc q h) hFc (fun r' u t H1 locs1 ht hvm hw' hB hz1 hk1 hS1 => ?_)
  obtain rfl := hw'
  rw [ht] at hB
  obtain ⟨hP1, hD1⟩ := zback hP hD ps rs hC hC' (zsame_map hR) nw hnw (Bool.and_eq_true_iff.mp hcov).1 hfs (fun i hi hp => by have h8 := List.all_eq_true.mp (Bool.and_eq_true_iff.mp hcov).2 i hi; rw [List.contains_iff_mem.mpr hp] at h8; cases h8) hk1 hB
  exact kk H1 locs1 ls hP1 hD1 hS1 hl
theorem r_N_z (C : zC x cc own nL rm) {r : Int32} (hM : zMz (z_l x) y bytes maxL rm' (z_g x) (As) wc r wc') (hd : zd 3 cc pc pc' (.invokestatic idx)) (K : zlN own idx y bytes maxL (some .boolean) n) (ps : List Nat) (hn : As.length = n) (hstk : stk = As.reverse ++ st) (hC : ps.map (fun i => ws[i]?) = wc.map some) (hnd : va_nd ps = true) (rs : List Nat) (hC' : ps.map (fun i => ws'[i]?) = wc'.map some) (hR : zsame ws ws' rs) (nw : Nat) (hnw : ws'.length = nw) (hcov : (zcov nw ps rs && rs.all (fun i => !ps.contains i)) = true) (hfs : ws'.map Prod.fst = ws.map Prod.fst) (hft : zfit rm rm' maxL = true) (hsm : zsm st = true) (hcs : (Nat.ble ca rm.cells && Nat.ble sl rm.slots) = true)
    (kk : zB r → vV x nL ca sl ws' pc' lv (.int r :: st)) : vV x nL ca sl ws pc lv stk := by
  obtain ⟨hd, rfl⟩ := hd
  intro H locs ls hP hD hS hl
  have hf := zfit_spec hft
  have hca : ca + 0 ≤ rm.cells := Nat.le_of_ble_eq_true (Bool.and_eq_true_iff.mp hcs).1
  have hsl : sl + 0 ≤ rm.slots := Nat.le_of_ble_eq_true (Bool.and_eq_true_iff.mp hcs).2
  have hFc := va_free (wc := wc) hD hS C.A ps hC
  obtain ⟨host, hnb⟩ := K.1
  refine va_calli (va_runSN (As := As) (rest := st) (g := F0 (z_m x) pc ls stk) C.fix (hM H.size) ⟨va_cnB n C.ts (zgood K.2.2.2.1) rfl hf.2.2.1 hf.2.2.2 (C.Z.1 _ hnb) (C.ts _ K.2.2.1) K.2.2.2.2 (by rw [C.R]; exact ⟨hf.1, hf.2.1⟩), C.ts _ K.2.1, trivial⟩ ⟨zPc_blind, zpre C hP hD hS ps hC hnd _⟩ rfl hn hl.1 hstk (lv_room (zsm_spec hsm)) hd (by rw [C.R]; exact ⟨hca, hsl⟩)) hS (fun q _ h => hFc q h) hFc (fun r' u t H1 locs1 ht hvm hw' hB hz1 hk1 hS1 => ?_)
  obtain ⟨rfl, hzb⟩ := hw'
  rw [ht] at hB
  obtain ⟨hP1, hD1⟩ := zback hP hD ps rs hC hC' (zsame_map hR) nw hnw (Bool.and_eq_true_iff.mp hcov).1 hfs (fun i hi hp => by have h8 := List.all_eq_true.mp (Bool.and_eq_true_iff.mp hcov).2 i hi; rw [List.contains_iff_mem.mpr hp] at h8; cases h8) hk1 hB
  exact kk hzb H1 locs1 ls hP1 hD1 hS1 hl
theorem r_N_l (C : zC x cc own nL rm) {r : Int64} (hM : zMl (z_l x) y bytes maxL rm' (z_g x) (As) wc r wc') (hd : zd 3 cc pc pc' (.invokestatic idx)) (K : zlN own idx y bytes maxL (some .long) n) (ps : List Nat) (hn : As.length = n) (hstk : stk = As.reverse ++ st) (hC : ps.map (fun i => ws[i]?) = wc.map some) (hnd : va_nd ps = true) (rs : List Nat) (hC' : ps.map (fun i => ws'[i]?) = wc'.map some) (hR : zsame ws ws' rs) (nw : Nat) (hnw : ws'.length = nw) (hcov : (zcov nw ps rs && rs.all (fun i => !ps.contains i)) = true) (hfs : ws'.map Prod.fst = ws.map Prod.fst) (hft : zfit rm rm' maxL = true) (hsm : zsm st = true) (hcs : (Nat.ble ca rm.cells && Nat.ble sl rm.slots) = true)
    (kk : vV x nL ca sl ws' pc' lv (.long r :: st)) : vV x nL ca sl ws pc lv stk := by
  obtain ⟨hd, rfl⟩ := hd
  intro H locs ls hP hD hS hl
  have hf := zfit_spec hft
  have hca : ca + 0 ≤ rm.cells := Nat.le_of_ble_eq_true (Bool.and_eq_true_iff.mp hcs).1
  have hsl : sl + 0 ≤ rm.slots := Nat.le_of_ble_eq_true (Bool.and_eq_true_iff.mp hcs).2
  have hFc := va_free (wc := wc) hD hS C.A ps hC
  obtain ⟨host, hnb⟩ := K.1
  refine va_calll (va_runSN (As := As) (rest := st) (g := F0 (z_m x) pc ls stk) C.fix (hM H.size) ⟨va_cnB n C.ts (zgood K.2.2.2.1) rfl hf.2.2.1 hf.2.2.2 (C.Z.1 _ hnb) (C.ts _ K.2.2.1) K.2.2.2.2 (by rw [C.R]; exact ⟨hf.1, hf.2.1⟩), C.ts _ K.2.1, trivial⟩ ⟨zPc_blind, zpre C hP hD hS ps hC hnd _⟩ rfl hn hl.1 hstk (lv_room (zsm_spec hsm)) hd (by rw [C.R]; exact ⟨hca, hsl⟩)) hS (fun q _ h => hFc q h) hFc (fun r' u t H1 locs1 ht hvm hw' hB hz1 hk1 hS1 => ?_)
  obtain rfl := hw'
  rw [ht] at hB
  obtain ⟨hP1, hD1⟩ := zback hP hD ps rs hC hC' (zsame_map hR) nw hnw (Bool.and_eq_true_iff.mp hcov).1 hfs (fun i hi hp => by have h8 := List.all_eq_true.mp (Bool.and_eq_true_iff.mp hcov).2 i hi; rw [List.contains_iff_mem.mpr hp] at h8; cases h8) hk1 hB
  exact kk H1 locs1 ls hP1 hD1 hS1 hl
theorem r_N_v (C : zC x cc own nL rm) (hM : zMv (z_l x) y bytes maxL rm' (z_g x) (As) wc  wc') (hd : zd 3 cc pc pc' (.invokestatic idx)) (K : zlN own idx y bytes maxL (none) n) (ps : List Nat) (hn : As.length = n) (hstk : stk = As.reverse ++ st) (hC : ps.map (fun i => ws[i]?) = wc.map some) (hnd : va_nd ps = true) (rs : List Nat) (hC' : ps.map (fun i => ws'[i]?) = wc'.map some) (hR : zsame ws ws' rs) (nw : Nat) (hnw : ws'.length = nw) (hcov : (zcov nw ps rs && rs.all (fun i => !ps.contains i)) = true) (hfs : ws'.map Prod.fst = ws.map Prod.fst) (hft : zfit rm rm' maxL = true) (hsm : zsm st = true) (hcs : (Nat.ble ca rm.cells && Nat.ble sl rm.slots) = true)
    (kk : vV x nL ca sl ws' pc' lv (st)) : vV x nL ca sl ws pc lv stk := by
  obtain ⟨hd, rfl⟩ := hd
  intro H locs ls hP hD hS hl
  have hf := zfit_spec hft
  have hca : ca + 0 ≤ rm.cells := Nat.le_of_ble_eq_true (Bool.and_eq_true_iff.mp hcs).1
  have hsl : sl + 0 ≤ rm.slots := Nat.le_of_ble_eq_true (Bool.and_eq_true_iff.mp hcs).2
  have hFc := va_free (wc := wc) hD hS C.A ps hC
  obtain ⟨host, hnb⟩ := K.1
  refine va_callv (va_runSN (As := As) (rest := st) (g := F0 (z_m x) pc ls stk) C.fix (hM H.size) ⟨va_cnB n C.ts (zgood K.2.2.2.1) rfl hf.2.2.1 hf.2.2.2 (C.Z.1 _ hnb) (C.ts _ K.2.2.1) K.2.2.2.2 (by rw [C.R]; exact ⟨hf.1, hf.2.1⟩), C.ts _ K.2.1, trivial⟩ ⟨zPc_blind, zpre C hP hD hS ps hC hnd _⟩ rfl hn hl.1 hstk (lv_room (zsm_spec hsm)) hd (by rw [C.R]; exact ⟨hca, hsl⟩)) hS (fun q _ h => hFc q h) hFc (fun u t H1 locs1 ht hvm hw' hB hz1 hk1 hS1 => ?_)
  clear hw'
  rw [ht] at hB
  obtain ⟨hP1, hD1⟩ := zback hP hD ps rs hC hC' (zsame_map hR) nw hnw (Bool.and_eq_true_iff.mp hcov).1 hfs (fun i hi hp => by have h8 := List.all_eq_true.mp (Bool.and_eq_true_iff.mp hcov).2 i hi; rw [List.contains_iff_mem.mpr hp] at h8; cases h8) hk1 hB
  exact kk H1 locs1 ls hP1 hD1 hS1 hl
end
