/-! THE CLAIM OUT OF ONE WALK OF THE LAW'S BODY. Your part is whole_start (and what it stands on); all else here is the same for every law, but numbers. -/
def R_law : String := "AlongsideLinesLaw"
def lw_P (b : Addr) (xs : List Int32) (args : Array Value) (s : State) : Prop := args = #[.ref b] ∧ s.IntsAt b xs ∧ xs.length ≤ 2560 ∧ (Jvm.Cond.and given_1 narrow_1).before args s = true
def lw_Q (_ : Array Value) (s : State) (o : Outcome) (t : State) : Prop := o = .returned (some (.int 1)) ∧ Framed s o t [] 93 1926
def lw_Z (below : List Frame) (a : Array Value) (s : State) : State → Prop := fun t => ∃ o, t.status = .running ∧ Ended t below o ∧ lw_Q a s o t
/-- the law's own end, with 1 on the stack, nothing written that was there before, its room as the claim has it -/
theorem lw_ret {p : Program} {l : Launch} {e : Env} {s : State} {m : MethodId} {below : List Frame} {meth : Method} {c : Code} {b : Nat} (hx : p.tables.exec = Jvm.exec) (hb : c.code = code) (hr : meth.sig.returnType = ret) (hlocks : meth.locks = false) {pc : Nat} {H : Heap} {ls : Array Slot} (hdg : decode code pc = .ok (.ireturn, 1)) : W p l e room_1 s m #[Value.ref b] below meth c H [] 93 1926 (lw_Z below #[Value.ref b] s) (F0 m pc ls [.int 1]) := by
  intro T hT X
  obtain ⟨fs, hret, hrun, hended, hW, hframe⟩ := X.leave (v := some (.int 1)) (hlocks := hlocks) (fun h => by rw [hr] at h; cases h)
  have hmeth' : T.vm.method? m = some meth := X.method'
  refine ⟨T.setFrames fs, ?_, .returned (some (.int 1)), hrun, hended, rfl, ⟨_, rfl⟩, hW, hframe⟩
  jvm_step X.here [X.here.top, hx, hb, hdg, hmeth', hr, ret, narrow_b1]
  (try refine ⟨rfl, ?_⟩); (try refine ⟨rfl, ?_⟩)
  first | (intro acts; rw [hret _ acts rfl rfl rfl]) | rw [hret _ _ rfl rfl rfl]
  exact Steps.refl _
/-- what holds at the law's entry: the machine, the code, the tables' words (any of lw_tbl by 'hts w (by decide +kernel)'), the script of L ints xs at the cell b, what the Statement gives of the start (any of its parts by flat_of_before) -/
def lw_At (p : Program) (s : State) (m : MethodId) (meth : Method) (c : Code) (b L : Nat) (xs : Nat → Int32) : Prop :=
  p.tables.exec = Jvm.exec ∧ c.code = code ∧ meth.sig.returnType = ret ∧ c.maxLocals = 4 ∧ s.vm.findClass R_law = some m.cls ∧ (∀ w ∈ lw_tbl, w.before #[Value.ref b] s = true) ∧ va_X b L xs s s.heap ∧ b < s.heap.size ∧ meth.locks = false ∧ (Jvm.Cond.and given_1 narrow_1).before #[Value.ref b] s = true

abbrev wA (g : zGl) (a : Nat → Nat) (v : tAL) : va_W := W_AL g a 0 (gAL_ints v) (gTe_ints (gAL_text v)) (gTe_bytes (gAL_text v)) (gRe_ints (gAL_reader v)) (gQu_ints (gRe_quayDraft (gAL_reader v))) (gQu_places (gRe_quayDraft (gAL_reader v))) (gQu_strengths (gRe_quayDraft (gAL_reader v))) (gPl_ints (gRe_planDraft (gAL_reader v))) (gPl_seconds (gRe_planDraft (gAL_reader v))) (gPl_engines (gRe_planDraft (gAL_reader v))) (gPl_wheels (gRe_planDraft (gAL_reader v))) (gTi_ints (gRe_tideDraft (gAL_reader v))) (gTi_heights (gRe_tideDraft (gAL_reader v))) (gRe_times (gAL_reader v)) (gRe_row (gAL_reader v)) (gQu_ints (gAL_quay v)) (gQu_places (gAL_quay v)) (gQu_strengths (gAL_quay v)) (gPl_ints (gAL_plan v)) (gPl_seconds (gAL_plan v)) (gPl_engines (gAL_plan v)) (gPl_wheels (gAL_plan v)) (gTi_ints (gAL_tide v)) (gTi_heights (gAL_tide v)) (gSh_ints (gAL_ship v)) (gSh_harm (gAL_ship v)) (gLi_fast (gSh_lines (gAL_ship v))) (gLi_place (gSh_lines (gAL_ship v))) (gLi_post (gSh_lines (gAL_ship v))) (gLi_length (gSh_lines (gAL_ship v))) (gSh_ints (gAL_images0 v)) (gSh_harm (gAL_images0 v)) (gLi_fast (gSh_lines (gAL_images0 v))) (gLi_place (gSh_lines (gAL_images0 v))) (gLi_post (gSh_lines (gAL_images0 v))) (gLi_length (gSh_lines (gAL_images0 v))) (gSh_ints (gAL_images1 v)) (gSh_harm (gAL_images1 v)) (gLi_fast (gSh_lines (gAL_images1 v))) (gLi_place (gSh_lines (gAL_images1 v))) (gLi_post (gSh_lines (gAL_images1 v))) (gLi_length (gSh_lines (gAL_images1 v))) (gAL_kept v) (gAL_logged v) (gSh_ints (gAL_trial v)) (gSh_harm (gAL_trial v)) (gLi_fast (gSh_lines (gAL_trial v))) (gLi_place (gSh_lines (gAL_trial v))) (gLi_post (gSh_lines (gAL_trial v))) (gLi_length (gSh_lines (gAL_trial v))) (gSh_ints (gSe_base (gAL_search v))) (gSh_harm (gSe_base (gAL_search v))) (gLi_fast (gSh_lines (gSe_base (gAL_search v)))) (gLi_place (gSh_lines (gSe_base (gAL_search v)))) (gLi_post (gSh_lines (gSe_base (gAL_search v)))) (gLi_length (gSh_lines (gSe_base (gAL_search v)))) (gSh_ints (gSe_probe (gAL_search v))) (gSh_harm (gSe_probe (gAL_search v))) (gLi_fast (gSh_lines (gSe_probe (gAL_search v)))) (gLi_place (gSh_lines (gSe_probe (gAL_search v)))) (gLi_post (gSh_lines (gSe_probe (gAL_search v)))) (gLi_length (gSh_lines (gSe_probe (gAL_search v)))) (gQu_ints (gSe_other (gAL_search v))) (gQu_places (gSe_other (gAL_search v))) (gQu_strengths (gSe_other (gAL_search v))) (gNi_ints (gAL_night v)) (gNi_hours (gAL_night v)) (gLg_ints (gAL_lettingGo v)) (gLg_shares (gAL_lettingGo v)) (gLg_strengths (gAL_lettingGo v)) (gLg_best (gAL_lettingGo v))
abbrev wM (g : zGl) (a : Nat → Nat) (v : tMo) : va_W := W_Mo g a 0 (gMo_ints v) (gMo_told v) (gMo_postX v) (gMo_postStrong v) (gMo_atRow v) (gMo_heights v) (gMo_ship v) (gMo_lines v) (gMo_text v) (gMo_said v) (gMo_readTold v) (gMo_readX v) (gMo_readStrong v) (gMo_readRow v) (gMo_parting v) (gMo_wasShip v) (gMo_wasLines v) (gMo_worst v) (gMo_logRow v) (gMo_images v) (gMo_isKept v)
theorem zsame_all {ws ws' : va_W} : ∀ {rs : List Nat}, (∀ i ∈ rs, ws'[i]? = ws[i]?) → zsame ws ws' rs
  | [], _ => trivial
  | r :: rs, h => ⟨h r List.mem_cons_self, zsame_all fun i hi => h i (List.mem_cons_of_mem _ hi)⟩
theorem zrg1 {w1 w2 : va_W} (l1 : w1.length = 73) : (List.range 73).map (fun i => (w1 ++ w2)[i]?) = w1.map some := by
  apply List.ext_getElem?
  intro j
  rw [List.getElem?_map, List.getElem?_map]
  by_cases h : j < 73
  · rw [List.getElem?_range h, Option.map_some, List.getElem?_append_left (by omega), List.getElem?_eq_getElem (by omega)]; rfl
  · rw [List.getElem?_eq_none (by rw [List.length_range]; omega), List.getElem?_eq_none (by omega)]; rfl
theorem zrg2 {w1 w2 : va_W} (l1 : w1.length = 73) (l2 : w2.length = 20) : (List.range' 73 20).map (fun i => (w1 ++ w2)[i]?) = w2.map some := by
  apply List.ext_getElem?
  intro j
  rw [List.getElem?_map, List.getElem?_map]
  by_cases h : j < 20
  · rw [List.getElem?_range' h, Option.map_some, List.getElem?_append_right (by omega), l1, show 73 + 1 * j - 73 = j by omega, List.getElem?_eq_getElem (by omega)]; rfl
  · rw [List.getElem?_eq_none (by rw [List.length_range']; omega), List.getElem?_eq_none (by omega)]; rfl
section
variable {x : zFx} {rm rm' : Room} {cc bytes : ByteArray} {own : String} {nL maxL ca sl pc pc' idx n b : Nat} {ws : va_W} {lv : List (Nat × Value)} {st stk As : List Value} {y : MethodName}
theorem lw_Ai (C : zC x cc own nL rm) {r : Int32} {w1 w1' w2 : va_W} (hM : zMi (z_l x) y bytes maxL rm' (z_g x) (.ref b :: As) w1 r w1') (hd : zd 3 cc pc pc' (.invokevirtual idx)) (K : zlV own idx y bytes maxL (some .int) n) (hrc : zrcv w1 b y.cls) (hn : As.length = n) (hstk : stk = As.reverse ++ .ref b :: st) (l1 : w1.length = 73) (l1' : w1'.length = 73) (l2 : w2.length = 20) (hf : w1'.map Prod.fst = w1.map Prod.fst) (hft : zfit rm rm' maxL = true) (hsm : zsm st = true) (hcs : (Nat.ble ca rm.cells && Nat.ble sl rm.slots) = true) (kk : vV x nL ca sl (w1' ++ w2) pc' lv (.int r :: st)) : vV x nL ca sl (w1 ++ w2) pc lv stk :=
  r_V_i C hM hd K hrc (List.range 73) hn hstk (zrg1 l1) (by decide +kernel) (List.range' 73 20) (zrg1 l1') (zsame_all fun i hi => by obtain ⟨h7, h8⟩ := List.mem_range'_1.mp hi; rw [List.getElem?_append_right (by omega), List.getElem?_append_right (by omega), l1, l1']) 93 (by rw [List.length_append, l1', l2]) (by decide +kernel) (by rw [List.map_append, List.map_append, hf]) hft hsm hcs kk
theorem lw_Mi (C : zC x cc own nL rm) {r : Int32} {w1 w2 w2' : va_W} (hM : zMi (z_l x) y bytes maxL rm' (z_g x) (.ref b :: As) w2 r w2') (hd : zd 3 cc pc pc' (.invokevirtual idx)) (K : zlV own idx y bytes maxL (some .int) n) (hrc : zrcv w2 b y.cls) (hn : As.length = n) (hstk : stk = As.reverse ++ .ref b :: st) (l1 : w1.length = 73) (l2' : w2'.length = 20) (l2 : w2.length = 20) (hf : w2'.map Prod.fst = w2.map Prod.fst) (hft : zfit rm rm' maxL = true) (hsm : zsm st = true) (hcs : (Nat.ble ca rm.cells && Nat.ble sl rm.slots) = true) (kk : vV x nL ca sl (w1 ++ w2') pc' lv (.int r :: st)) : vV x nL ca sl (w1 ++ w2) pc lv stk :=
  r_V_i C hM hd K hrc (List.range' 73 20) hn hstk (zrg2 l1 l2) (by decide +kernel) (List.range 73) (zrg2 l1 l2') (zsame_all fun i hi => by have h7 := List.mem_range.mp hi; rw [List.getElem?_append_left (by omega), List.getElem?_append_left (by omega)]) 93 (by rw [List.length_append, l1, l2']) (by decide +kernel) (by rw [List.map_append, List.map_append, hf]) hft hsm hcs kk
theorem lw_Al (C : zC x cc own nL rm) {r : Int64} {w1 w1' w2 : va_W} (hM : zMl (z_l x) y bytes maxL rm' (z_g x) (.ref b :: As) w1 r w1') (hd : zd 3 cc pc pc' (.invokevirtual idx)) (K : zlV own idx y bytes maxL (some .long) n) (hrc : zrcv w1 b y.cls) (hn : As.length = n) (hstk : stk = As.reverse ++ .ref b :: st) (l1 : w1.length = 73) (l1' : w1'.length = 73) (l2 : w2.length = 20) (hf : w1'.map Prod.fst = w1.map Prod.fst) (hft : zfit rm rm' maxL = true) (hsm : zsm st = true) (hcs : (Nat.ble ca rm.cells && Nat.ble sl rm.slots) = true) (kk : vV x nL ca sl (w1' ++ w2) pc' lv (.long r :: st)) : vV x nL ca sl (w1 ++ w2) pc lv stk :=
  r_V_l C hM hd K hrc (List.range 73) hn hstk (zrg1 l1) (by decide +kernel) (List.range' 73 20) (zrg1 l1') (zsame_all fun i hi => by obtain ⟨h7, h8⟩ := List.mem_range'_1.mp hi; rw [List.getElem?_append_right (by omega), List.getElem?_append_right (by omega), l1, l1']) 93 (by rw [List.length_append, l1', l2]) (by decide +kernel) (by rw [List.map_append, List.map_append, hf]) hft hsm hcs kk
theorem lw_Ml (C : zC x cc own nL rm) {r : Int64} {w1 w2 w2' : va_W} (hM : zMl (z_l x) y bytes maxL rm' (z_g x) (.ref b :: As) w2 r w2') (hd : zd 3 cc pc pc' (.invokevirtual idx)) (K : zlV own idx y bytes maxL (some .long) n) (hrc : zrcv w2 b y.cls) (hn : As.length = n) (hstk : stk = As.reverse ++ .ref b :: st) (l1 : w1.length = 73) (l2' : w2'.length = 20) (l2 : w2.length = 20) (hf : w2'.map Prod.fst = w2.map Prod.fst) (hft : zfit rm rm' maxL = true) (hsm : zsm st = true) (hcs : (Nat.ble ca rm.cells && Nat.ble sl rm.slots) = true) (kk : vV x nL ca sl (w1 ++ w2') pc' lv (.long r :: st)) : vV x nL ca sl (w1 ++ w2) pc lv stk :=
  r_V_l C hM hd K hrc (List.range' 73 20) hn hstk (zrg2 l1 l2) (by decide +kernel) (List.range 73) (zrg2 l1 l2') (zsame_all fun i hi => by have h7 := List.mem_range.mp hi; rw [List.getElem?_append_left (by omega), List.getElem?_append_left (by omega)]) 93 (by rw [List.length_append, l1, l2']) (by decide +kernel) (by rw [List.map_append, List.map_append, hf]) hft hsm hcs kk
/-- the script -/
def lwX (x : zFx) (b L : Nat) (xs : Nat → Int32) : Prop := va_X b L xs (z_s x) (z_s x).heap ∧ b < (z_s x).heap.size ∧ ¬ z_A x b ∧ L ≤ 2560
theorem lw_sld (C : zC x cc own nL rm) {L : Nat} {xs : Nat → Int32} (X : lwX x b L xs) {i : Int32} {k : Nat} (hd : zd 1 cc pc pc' .iaload) (hi : i.toInt = (k : Int)) (hk : k < L) (kk : vV x nL ca sl ws pc' lv (.int (xs k) :: st)) : vV x nL ca sl ws pc lv (.int i :: .ref b :: st) := by
  obtain ⟨hd, rfl⟩ := hd
  obtain ⟨h1, h2, h3, h4⟩ := X
  intro H locs ls hP hD hS hl
  have e : i.toNatClampNeg = k := by
    have := ix_eq hi
    exact this
  refine va_sld C.ex C.b h1 h2 h3 hS (i := i) (fun z => ?_) hd ?_
  · rcases z with z | z
    · rw [Int32.lt_iff_toInt_lt, hi] at z
      have z : (k : Int) < 0 := z
      omega
    · omega
  · rw [e]; exact kk H locs ls hP hD hS hl
theorem lw_slen (C : zC x cc own nL rm) {L : Nat} {xs : Nat → Int32} (X : lwX x b L xs) (hd : zd 1 cc pc pc' .arraylength) (kk : vV x nL ca sl ws pc' lv (.int (Int32.ofNat L) :: st)) : vV x nL ca sl ws pc lv (.ref b :: st) := by
  obtain ⟨hd, rfl⟩ := hd
  obtain ⟨h1, h2, h3, h4⟩ := X
  intro H locs ls hP hD hS hl
  exact va_slen C.ex C.b h1 h2 h3 hS hd (kk H locs ls hP hD hS hl)
end
theorem ia_0 {i : Int32} {k : Nat} (h : i.toInt = (k : Int)) (_ : k ≤ 3000) : i.toInt = (k : Int) := h
theorem ia_1 {i : Int32} {k : Nat} (h : i.toInt = (k : Int)) (hk : k ≤ 3000) : (i + 1).toInt = ((k + 1 : Nat) : Int) := toInt_succ h (by omega)
theorem ia_2 {i : Int32} {k : Nat} (h : i.toInt = (k : Int)) (hk : k ≤ 3000) : (i + 2).toInt = ((k + 2 : Nat) : Int) := by
  rw [((rp.of 3000 h (by omega) (by omega)).add (rp.lit 2 2 (a := 2) rfl rfl) (by decide)).1]; omega
theorem ia_3 {i : Int32} {k : Nat} (h : i.toInt = (k : Int)) (hk : k ≤ 3000) : (i + 3).toInt = ((k + 3 : Nat) : Int) := by
  rw [((rp.of 3000 h (by omega) (by omega)).add (rp.lit 3 3 (a := 3) rfl rfl) (by decide)).1]; omega
theorem ia_4 {i : Int32} {k : Nat} (h : i.toInt = (k : Int)) (hk : k ≤ 3000) : (i + 4).toInt = ((k + 4 : Nat) : Int) := by
  rw [((rp.of 3000 h (by omega) (by omega)).add (rp.lit 4 4 (a := 4) rfl rfl) (by decide)).1]; omega
theorem ia_5 {i : Int32} {k : Nat} (h : i.toInt = (k : Int)) (hk : k ≤ 3000) : (i + 5).toInt = ((k + 5 : Nat) : Int) := by
  rw [((rp.of 3000 h (by omega) (by omega)).add (rp.lit 5 5 (a := 5) rfl rfl) (by decide)).1]; omega
