/-- narrow results -/
def zMt (ty : FieldType) (l : Launch) (y : MethodName) (cc : ByteArray) (n : Nat) (rm : Room) (g : zGl) (avs : List Value) (ws : va_W) (r : Int32) (ws' : va_W) : Prop :=
  ∀ sz : Nat, Met l y (zws y cc n (some ty)) rm (zPc g avs ws sz) (va_Qi (fun r' (_ : Unit) => r' = r ∧ narrow ty (.int r) = .int r) (fun _ t => va_P g.1 vwCl ws' t.heap) (va_A ws sz)) 0 0 (va_A ws sz)
def zMs (l : Launch) (y : MethodName) (cc : ByteArray) (n : Nat) (rm : Room) (g : zGl) (avs : List Value) (ws : va_W) (b : Nat) (ws' : va_W) : Prop :=
  ∀ sz : Nat, Met l y (zws y cc n (some (.object "java/lang/String"))) rm (zPc g avs ws sz) (va_Qr (fun (_ : Unit) => True) (fun _ a t => a = b ∧ va_P g.1 vwCl ws' t.heap) (va_A ws sz)) 0 0 (va_A ws sz)
theorem zMt_of {ty : FieldType} {r : Int32} {l : Launch} {y : MethodName} {cc : ByteArray} {n : Nat} {rm : Room} {g : zGl} {avs : List Value} {ws : va_W} {ws' : va_W} {lv : List (Nat × Value)} (hy : plainName y.cls = true) (hsl : (lg_sl avs).length ≤ n) (hlv : lv_args 0 avs = lv)
    (body : ∀ x : zFx, z_l x = l → z_g x = g → zC x cc y.cls n rm → (∀ (pc pc' : Nat) (lv : List (Nat × Value)), zd 1 cc pc pc' .ireturn → narrow ty (.int r) = .int r → vV x n 0 0 ws' pc lv [.int r]) → vV x n 0 0 ws 0 lv []) : zMt ty l y cc n rm g avs ws r ws' := by
  intro sz
  refine Met.ofW (cc := cc) (maxL := n) (ret := some ty) hy rfl ?_
  intro p e s m args below meth c s₁ B hml hv
  obtain ⟨rfl, hsz, hP, hK, hD0, hZ⟩ := hv
  subst hsz
  have hts := atoms_spec (ws := zws y cc n (some ty)) B.pre
  have hown : s.vm.findClass y.cls = some m.cls := findClass_of_methodNamed B.named
  have hA : ∀ q : Nat, s.heap.size ≤ q → va_A ws s.heap.size q := fun q h => Or.inr h
  have hl := lv_entry avs (n := n) hsl
  rw [lg_entry_eq]
  rw [hlv] at hl
  refine body (p, l, e, (headSpec (zws y cc n (some ty)) rm).room, s, m, avs.toArray, below, meth, c, g, va_A ws s.heap.size, MQ below _ avs.toArray s 0 0 (va_A ws s.heap.size)) rfl rfl ⟨rfl, B.exec, B.bytes, hml, hown, fun w hw => hts w (List.mem_cons_of_mem _ hw), hK, hA, hZ⟩ ?_ s.heap [] _ hP hD0.self va_S.rf hl
  intro pc pc' lv hd hzb H locs ls hP hD hS hl
  exact W.zret B.exec B.bytes B.returns hzb (fun t ht hW => ⟨⟨r, (), rfl, ⟨rfl, hzb⟩, by show va_P _ _ _ t.heap; rw [ht]; exact hP⟩, hS.F ht⟩) hS.2.2 hd.1 B.notSynchronized
theorem zMs_of {b : Nat} {l : Launch} {y : MethodName} {cc : ByteArray} {n : Nat} {rm : Room} {g : zGl} {avs : List Value} {ws : va_W} {ws' : va_W} {lv : List (Nat × Value)} (hy : plainName y.cls = true) (hsl : (lg_sl avs).length ≤ n) (hlv : lv_args 0 avs = lv)
    (body : ∀ x : zFx, z_l x = l → z_g x = g → zC x cc y.cls n rm → (∀ (pc pc' : Nat) (lv : List (Nat × Value)), zd 1 cc pc pc' .areturn → vV x n 0 0 ws' pc lv [.ref b]) → vV x n 0 0 ws 0 lv []) : zMs l y cc n rm g avs ws b ws' := by
  intro sz
  refine Met.ofW (cc := cc) (maxL := n) (ret := some (.object "java/lang/String")) hy rfl ?_
  intro p e s m args below meth c s₁ B hml hv
  obtain ⟨rfl, hsz, hP, hK, hD0, hZ⟩ := hv
  subst hsz
  have hts := atoms_spec (ws := zws y cc n (some (.object "java/lang/String"))) B.pre
  have hown : s.vm.findClass y.cls = some m.cls := findClass_of_methodNamed B.named
  have hA : ∀ q : Nat, s.heap.size ≤ q → va_A ws s.heap.size q := fun q h => Or.inr h
  have hl := lv_entry avs (n := n) hsl
  rw [lg_entry_eq]
  rw [hlv] at hl
  refine body (p, l, e, (headSpec (zws y cc n (some (.object "java/lang/String"))) rm).room, s, m, avs.toArray, below, meth, c, g, va_A ws s.heap.size, MQ below _ avs.toArray s 0 0 (va_A ws s.heap.size)) rfl rfl ⟨rfl, B.exec, B.bytes, hml, hown, fun w hw => hts w (List.mem_cons_of_mem _ hw), hK, hA, hZ⟩ ?_ s.heap [] _ hP hD0.self va_S.rf hl
  intro pc pc' lv hd H locs ls hP hD hS hl
  exact W.aret B.exec B.bytes B.returns (Or.inl ⟨_, rfl⟩) (Or.inr ⟨b, rfl⟩) (fun t ht hW => ⟨⟨(), b, rfl, trivial, rfl, by show va_P _ _ _ t.heap; rw [ht]; exact hP⟩, hS.F ht⟩) hS.2.2 hd.1 B.notSynchronized
section
variable {x : zFx} {rm rm' : Room} {cc bytes : ByteArray} {own : String} {nL maxL ca sl pc pc' idx n b k : Nat} {ws : va_W} {lv : List (Nat × Value)} {st stk As : List Value} {y : MethodName} {ty : FieldType}
theorem zP_calm {D : va_G} {cl : List vw_C} {H H1 : Heap} (hP : va_P D cl ws H) (hk : ∀ q : Nat, q < H.size → ¬ va_A [] H.size q → H1[q]? = H[q]?) : va_P D cl ws H1 := fun k q hq => (hP k q hq).kept (hk q.1 (hP k q hq).lt (by
  rintro (⟨i, e, he⟩ | h)
  · cases he
  · exact absurd (hP k q hq).lt (Nat.not_lt.mpr h)))
theorem r_VS_t (C : zC x cc own nL rm) {r : Int32} (hM : zMt ty (z_l x) y bytes maxL rm' (z_g x) (.ref ((z_g x).2.2.1 k) :: As) [] r []) (hd : zd 3 cc pc pc' (.invokevirtual idx)) (K : zlV own idx y bytes maxL (some ty) n) (hk : k < 11) (hcls : y.cls = "java/lang/String") (hn : As.length = n) (hstk : stk = As.reverse ++ .ref ((z_g x).2.2.1 k) :: st) (hft : zfit rm rm' maxL = true) (hsm : zsm st = true) (hcs : (Nat.ble ca rm.cells && Nat.ble sl rm.slots) = true)
    (kk : narrow ty (.int r) = .int r → vV x nL ca sl ws pc' lv (.int r :: st)) : vV x nL ca sl ws pc lv stk := by
  obtain ⟨hd, rfl⟩ := hd
  intro H locs ls hP hD hS hl
  have hf := zfit_spec hft
  have hca : ca + 0 ≤ rm.cells := Nat.le_of_ble_eq_true (Bool.and_eq_true_iff.mp hcs).1
  have hsl : sl + 0 ≤ rm.slots := Nat.le_of_ble_eq_true (Bool.and_eq_true_iff.mp hcs).2
  have hFc := va_free (wc := []) hD hS C.A [] rfl
  refine va_calli (va_runV (C := y.cls) (As := As) (rest := st) (g := F0 (z_m x) pc ls stk) C.fix (hM H.size) ⟨callB_of n C.ts (zgood K.2.2.2.2.1) rfl hf.2.2.1 hf.2.2.2 (C.ts _ K.2.2.2.1) (C.ts _ K.1) K.2.2.2.2.2 (by rw [C.R]; exact ⟨hf.1, hf.2.1⟩), C.ts _ K.2.1, C.ts _ K.2.2.1⟩ ⟨zPc_blind, by rw [hcls]; exact vk_recv C.Z.2.2.2.1 hk hS, zpre C hP hD hS [] rfl rfl _⟩ rfl hn hl.1 hstk (lv_room (zsm_spec hsm)) hd (by rw [C.R]; exact ⟨hca, hsl⟩)) hS (fun q _ h => hFc q h) hFc (fun r' u t H1 locs1 ht hvm hw' hB hz1 hk1 hS1 => ?_)
  obtain ⟨rfl, hzb⟩ := hw'
  exact kk hzb H1 locs1 ls (zP_calm hP hk1) hD hS1 hl
theorem r_VS_i (C : zC x cc own nL rm) {r : Int32} (hM : zMi (z_l x) y bytes maxL rm' (z_g x) (.ref ((z_g x).2.2.1 k) :: As) [] r []) (hd : zd 3 cc pc pc' (.invokevirtual idx)) (K : zlV own idx y bytes maxL (some .int) n) (hk : k < 11) (hcls : y.cls = "java/lang/String") (hn : As.length = n) (hstk : stk = As.reverse ++ .ref ((z_g x).2.2.1 k) :: st) (hft : zfit rm rm' maxL = true) (hsm : zsm st = true) (hcs : (Nat.ble ca rm.cells && Nat.ble sl rm.slots) = true)
    (kk : vV x nL ca sl ws pc' lv (.int r :: st)) : vV x nL ca sl ws pc lv stk := by
  obtain ⟨hd, rfl⟩ := hd
  intro H locs ls hP hD hS hl
  have hf := zfit_spec hft
  have hca : ca + 0 ≤ rm.cells := Nat.le_of_ble_eq_true (Bool.and_eq_true_iff.mp hcs).1
  have hsl : sl + 0 ≤ rm.slots := Nat.le_of_ble_eq_true (Bool.and_eq_true_iff.mp hcs).2
  have hFc := va_free (wc := []) hD hS C.A [] rfl
  refine va_calli (va_runV (C := y.cls) (As := As) (rest := st) (g := F0 (z_m x) pc ls stk) C.fix (hM H.size) ⟨callB_of n C.ts (zgood K.2.2.2.2.1) rfl hf.2.2.1 hf.2.2.2 (C.ts _ K.2.2.2.1) (C.ts _ K.1) K.2.2.2.2.2 (by rw [C.R]; exact ⟨hf.1, hf.2.1⟩), C.ts _ K.2.1, C.ts _ K.2.2.1⟩ ⟨zPc_blind, by rw [hcls]; exact vk_recv C.Z.2.2.2.1 hk hS, zpre C hP hD hS [] rfl rfl _⟩ rfl hn hl.1 hstk (lv_room (zsm_spec hsm)) hd (by rw [C.R]; exact ⟨hca, hsl⟩)) hS (fun q _ h => hFc q h) hFc (fun r' u t H1 locs1 ht hvm hw' hB hz1 hk1 hS1 => ?_)
  obtain rfl := hw'
  exact kk H1 locs1 ls (zP_calm hP hk1) hD hS1 hl
theorem r_SS_t (C : zC x cc own nL rm) {r : Int32} (hM : zMt ty (z_l x) y bytes maxL rm' (z_g x) (As) [] r []) (hd : zd 3 cc pc pc' (.invokestatic idx)) (K : zlS own idx y bytes maxL (some ty) n) (hn : As.length = n) (hstk : stk = As.reverse ++ st) (hft : zfit rm rm' maxL = true) (hsm : zsm st = true) (hcs : (Nat.ble ca rm.cells && Nat.ble sl rm.slots) = true)
    (kk : narrow ty (.int r) = .int r → vV x nL ca sl ws pc' lv (.int r :: st)) : vV x nL ca sl ws pc lv stk := by
  obtain ⟨hd, rfl⟩ := hd
  intro H locs ls hP hD hS hl
  have hf := zfit_spec hft
  have hca : ca + 0 ≤ rm.cells := Nat.le_of_ble_eq_true (Bool.and_eq_true_iff.mp hcs).1
  have hsl : sl + 0 ≤ rm.slots := Nat.le_of_ble_eq_true (Bool.and_eq_true_iff.mp hcs).2
  have hFc := va_free (wc := []) hD hS C.A [] rfl
  refine va_calli (va_runS (As := As) (rest := st) (g := F0 (z_m x) pc ls stk) C.fix (hM H.size) ⟨callB_of n C.ts (zgood K.2.2.2.1) rfl hf.2.2.1 hf.2.2.2 (C.ts _ K.2.2.1) (C.ts _ K.1) K.2.2.2.2 (by rw [C.R]; exact ⟨hf.1, hf.2.1⟩), C.ts _ K.2.1⟩ ⟨zPc_blind, zpre C hP hD hS [] rfl rfl _⟩ rfl hn hl.1 hstk (lv_room (zsm_spec hsm)) hd (by rw [C.R]; exact ⟨hca, hsl⟩)) hS (fun q _ h => hFc q h) hFc (fun r' u t H1 locs1 ht hvm hw' hB hz1 hk1 hS1 => ?_)
  obtain ⟨rfl, hzb⟩ := hw'
  exact kk hzb H1 locs1 ls (zP_calm hP hk1) hD hS1 hl
theorem r_SS_i (C : zC x cc own nL rm) {r : Int32} (hM : zMi (z_l x) y bytes maxL rm' (z_g x) (As) [] r []) (hd : zd 3 cc pc pc' (.invokestatic idx)) (K : zlS own idx y bytes maxL (some .int) n) (hn : As.length = n) (hstk : stk = As.reverse ++ st) (hft : zfit rm rm' maxL = true) (hsm : zsm st = true) (hcs : (Nat.ble ca rm.cells && Nat.ble sl rm.slots) = true)
    (kk : vV x nL ca sl ws pc' lv (.int r :: st)) : vV x nL ca sl ws pc lv stk := by
  obtain ⟨hd, rfl⟩ := hd
  intro H locs ls hP hD hS hl
  have hf := zfit_spec hft
  have hca : ca + 0 ≤ rm.cells := Nat.le_of_ble_eq_true (Bool.and_eq_true_iff.mp hcs).1
  have hsl : sl + 0 ≤ rm.slots := Nat.le_of_ble_eq_true (Bool.and_eq_true_iff.mp hcs).2
  have hFc := va_free (wc := []) hD hS C.A [] rfl
  refine va_calli (va_runS (As := As) (rest := st) (g := F0 (z_m x) pc ls stk) C.fix (hM H.size) ⟨callB_of n C.ts (zgood K.2.2.2.1) rfl hf.2.2.1 hf.2.2.2 (C.ts _ K.2.2.1) (C.ts _ K.1) K.2.2.2.2 (by rw [C.R]; exact ⟨hf.1, hf.2.1⟩), C.ts _ K.2.1⟩ ⟨zPc_blind, zpre C hP hD hS [] rfl rfl _⟩ rfl hn hl.1 hstk (lv_room (zsm_spec hsm)) hd (by rw [C.R]; exact ⟨hca, hsl⟩)) hS (fun q _ h => hFc q h) hFc (fun r' u t H1 locs1 ht hvm hw' hB hz1 hk1 hS1 => ?_)
  obtain rfl := hw'
  exact kk H1 locs1 ls (zP_calm hP hk1) hD hS1 hl
theorem r_SS_s (C : zC x cc own nL rm) (hM : zMs (z_l x) y bytes maxL rm' (z_g x) (As) [] b []) (hd : zd 3 cc pc pc' (.invokestatic idx)) (K : zlS own idx y bytes maxL (some (.object "java/lang/String")) n) (hn : As.length = n) (hstk : stk = As.reverse ++ st) (hft : zfit rm rm' maxL = true) (hsm : zsm st = true) (hcs : (Nat.ble ca rm.cells && Nat.ble sl rm.slots) = true)
    (kk : vV x nL ca sl ws pc' lv (.ref b :: st)) : vV x nL ca sl ws pc lv stk := by
  obtain ⟨hd, rfl⟩ := hd
  intro H locs ls hP hD hS hl
  have hf := zfit_spec hft
  have hca : ca + 0 ≤ rm.cells := Nat.le_of_ble_eq_true (Bool.and_eq_true_iff.mp hcs).1
  have hsl : sl + 0 ≤ rm.slots := Nat.le_of_ble_eq_true (Bool.and_eq_true_iff.mp hcs).2
  have hFc := va_free (wc := []) hD hS C.A [] rfl
  refine va_callr (va_runS (As := As) (rest := st) (g := F0 (z_m x) pc ls stk) C.fix (hM H.size) ⟨callB_of n C.ts (zgood K.2.2.2.1) rfl hf.2.2.1 hf.2.2.2 (C.ts _ K.2.2.1) (C.ts _ K.1) K.2.2.2.2 (by rw [C.R]; exact ⟨hf.1, hf.2.1⟩), C.ts _ K.2.1⟩ ⟨zPc_blind, zpre C hP hD hS [] rfl rfl _⟩ rfl hn hl.1 hstk (lv_room (zsm_spec hsm)) hd (by rw [C.R]; exact ⟨hca, hsl⟩)) hS (fun q _ h => hFc q h) hFc (fun u ra t H1 locs1 ht hvm hw' hB hz1 hk1 hS1 => ?_)
  obtain ⟨rfl, -⟩ := hB
  exact kk H1 locs1 ls (zP_calm hP hk1) hD hS1 hl
theorem r_SS_v (C : zC x cc own nL rm) (hM : zMv (z_l x) y bytes maxL rm' (z_g x) (As) [] []) (hd : zd 3 cc pc pc' (.invokestatic idx)) (K : zlS own idx y bytes maxL none n) (hn : As.length = n) (hstk : stk = As.reverse ++ st) (hft : zfit rm rm' maxL = true) (hsm : zsm st = true) (hcs : (Nat.ble ca rm.cells && Nat.ble sl rm.slots) = true)
    (kk : vV x nL ca sl ws pc' lv st) : vV x nL ca sl ws pc lv stk := by
  obtain ⟨hd, rfl⟩ := hd
  intro H locs ls hP hD hS hl
  have hf := zfit_spec hft
  have hca : ca + 0 ≤ rm.cells := Nat.le_of_ble_eq_true (Bool.and_eq_true_iff.mp hcs).1
  have hsl : sl + 0 ≤ rm.slots := Nat.le_of_ble_eq_true (Bool.and_eq_true_iff.mp hcs).2
  have hFc := va_free (wc := []) hD hS C.A [] rfl
  refine va_callv (va_runS (As := As) (rest := st) (g := F0 (z_m x) pc ls stk) C.fix (hM H.size) ⟨callB_of n C.ts (zgood K.2.2.2.1) rfl hf.2.2.1 hf.2.2.2 (C.ts _ K.2.2.1) (C.ts _ K.1) K.2.2.2.2 (by rw [C.R]; exact ⟨hf.1, hf.2.1⟩), C.ts _ K.2.1⟩ ⟨zPc_blind, zpre C hP hD hS [] rfl rfl _⟩ rfl hn hl.1 hstk (lv_room (zsm_spec hsm)) hd (by rw [C.R]; exact ⟨hca, hsl⟩)) hS (fun q _ h => hFc q h) hFc (fun u t H1 locs1 ht hvm hw' hB hz1 hk1 hS1 => ?_)
  exact kk H1 locs1 ls (zP_calm hP hk1) hD hS1 hl
theorem r_ldcS (C : zC x cc RX5 nL rm) (hd : zd 2 cc pc pc' (.ldc idx)) {tx : String} {bs : List Int32} (hq : zStr[k]? = some (idx, tx, bs)) (kk : vV x nL ca sl ws pc' lv (.ref ((z_g x).2.2.1 k) :: st)) : vV x nL ca sl ws pc lv st := by
  obtain ⟨hd, rfl⟩ := hd
  exact fun H locs ls hP hD hS h => va_ldcS C.ex C.b C.own (C.Z.2.2.1 k _ hq) hd (kk H locs ls hP hD hS h)
theorem r_sval (C : zC x cc own nL rm) (hk : k < 11) (hd : zd 3 cc pc pc' (.getfield idx)) (hq : Cond.fieldLink own idx "java/lang/String" "value" "[B" ∈ TB) (kk : vV x nL ca sl ws pc' lv (.ref ((z_g x).2.2.2 k) :: st)) : vV x nL ca sl ws pc lv (.ref ((z_g x).2.2.1 k) :: st) := by
  obtain ⟨hd, rfl⟩ := hd
  exact fun H locs ls hP hD hS h => vk_getf C.ex C.b (C.Z.2.2.2.1.1 k hk).2.2.1 hS C.own (C.ts _ hq) (fun _ h => h) hd (kk H locs ls hP hD hS h)
theorem r_scod (C : zC x cc own nL rm) (hk : k < 11) (hd : zd 3 cc pc pc' (.getfield idx)) (hq : Cond.fieldLink own idx "java/lang/String" "coder" "B" ∈ TB) (kk : vV x nL ca sl ws pc' lv (.int 0 :: st)) : vV x nL ca sl ws pc lv (.ref ((z_g x).2.2.1 k) :: st) := by
  obtain ⟨hd, rfl⟩ := hd
  exact fun H locs ls hP hD hS h => vk_getf C.ex C.b (C.Z.2.2.2.1.1 k hk).2.1 hS C.own (C.ts _ hq) (fun _ h => h) hd (kk H locs ls hP hD hS h)
theorem r_slen (C : zC x cc own nL rm) (hk : k < 11) (hd : zd 1 cc pc pc' .arraylength) (kk : vV x nL ca sl ws pc' lv (.int (Int32.ofNat (zLen.getD k 0)) :: st)) : vV x nL ca sl ws pc lv (.ref ((z_g x).2.2.2 k) :: st) := by
  obtain ⟨hd, rfl⟩ := hd
  exact fun H locs ls hP hD hS h => va_tlen C.ex C.b (C.Z.2.2.2.1.1 k hk).2.2.2 hS rfl hd (kk H locs ls hP hD hS h)
theorem r_sbyt (C : zC x cc own nL rm) (hk : k < 11) {i : Int32} (hd : zd 1 cc pc pc' .baload) (hin : vp_in i (zLen.getD k 0)) (kk : vV x nL ca sl ws pc' lv (.int ((zByt.getD k []).getD (ix i) 0) :: st)) : vV x nL ca sl ws pc lv (.int i :: .ref ((z_g x).2.2.2 k) :: st) := by
  obtain ⟨hd, rfl⟩ := hd
  exact fun H locs ls hP hD hS h => va_tb C.ex C.b (C.Z.2.2.2.1.1 k hk).2.2.2 hS hin rfl hd (kk H locs ls hP hD hS h)
theorem r_cmp (C : zC x cc own nL rm) (hd : zd 3 cc pc pc' (.getstatic idx)) (hq : Cond.fieldLink own idx "java/lang/String" "COMPACT_STRINGS" "Z" ∈ TB) (kk : vV x nL ca sl ws pc' lv (.int 1 :: st)) : vV x nL ca sl ws pc lv st := by
  obtain ⟨hd, rfl⟩ := hd
  exact fun H locs ls hP hD hS h => va_gets C.ex C.b C.Z.2.2.2.2.1 hS C.own (C.ts _ hq) (fun _ h => h) hd (kk H locs ls hP hD hS h)
theorem r_fmt (C : zC x cc own nL rm) (hd : zd 3 cc pc pc' (.getstatic idx)) (hq : Cond.fieldLink own idx "jdk/internal/util/Preconditions" "SIOOBE_FORMATTER" "Ljava/util/function/BiFunction;" ∈ TB) (kk : ∀ v : Value, v.category = 1 → lg_sl [v] = [.val v] → vV x nL ca sl ws pc' lv (v :: st)) : vV x nL ca sl ws pc lv st := by
  obtain ⟨hd, rfl⟩ := hd
  rcases C.Z.2.2.2.2.2.1 with hZ | ⟨t, hZ⟩
  · exact fun H locs ls hP hD hS h => va_gets C.ex C.b hZ hS C.own (C.ts _ hq) (fun _ h => h) hd (kk _ rfl rfl H locs ls hP hD hS h)
  · exact fun H locs ls hP hD hS h => va_gets C.ex C.b hZ hS C.own (C.ts _ hq) (fun _ h => h) hd (kk _ rfl rfl H locs ls hP hD hS h)
end
