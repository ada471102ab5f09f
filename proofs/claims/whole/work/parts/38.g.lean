/-! THE LAW, from its entry -/
theorem NL_7 : zlW RL 7 10 15 tyX10 := ⟨(RX10, TX10, 15), rfl, rfl, q19, q20, q1, zin10, tyX10_ok⟩
theorem NL_10 : zlW RL 10 11 34 tyX11 := ⟨(RX11, TX11, 34), rfl, rfl, q1056, q1057, q12, zin11, tyX11_ok⟩
theorem IL_9 : zlI RL 9 yX10_init cX10_init 1 := ⟨Or.inl q21, q22, q1, q23, rfl, by decide, by decide, by decide +kernel⟩
theorem IL_12 : zlI RL 12 yX11_init cX11_init 2 := ⟨Or.inl q1058, q1059, q12, q1060, rfl, by decide, by decide, by decide +kernel⟩
set_option maxHeartbeats 4000000 in
set_option maxRecDepth 100000 in
theorem law_start {x : zFx} (C : zC x code RL 4 room_1) {b L : Nat} {xs : Nat → Int32} (X : lwX x b L xs) (hend : ∀ (ws : va_W) (lv : List (Nat × Value)), vV x 4 93 1926 ws 1105 lv [.int 1]) : vV x 4 0 0 [] 0 [(0, .ref b)] [] := by
  obtain ⟨r, r', e1, e2, hR⟩ := p_init
  refine r_new C (fs := df10) eL_0 NL_7 dfl10 1 15 (by decide) (fun q0 => ?_)
  refine r_dup C eL_3 rfl ?_
  refine r_ctor C (c_AL_init (z_l x) (z_g x) q0 r e1) eL_4 IL_9 rfl rfl 73 1088 (by decide) (fun a ha => ?_)
  subst ha
  refine r_astore_n C [(1, .ref (a 0)), (0, .ref b)] eL_7 rfl (by decide) rfl ?_
  refine r_new C (fs := df11) eL_8 NL_10 dfl11 74 1122 (by decide) (fun q1 => ?_)
  refine r_dup C eL_11 rfl ?_
  refine r_ctor C (c_Mo_init (z_l x) (z_g x) q1 r' e2) eL_12 IL_12 rfl rfl 93 1926 (by decide) (fun a' ha' => ?_)
  subst ha'
  refine r_astore_n C [(2, .ref (a' 0)), (1, .ref (a 0)), (0, .ref b)] eL_15 rfl (by decide) rfl ?_
  refine r_iconst C (v := 0) eL_16 (by decide) ?_
  refine r_istore_n C [(3, .int 0), (2, .ref (a' 0)), (1, .ref (a 0)), (0, .ref b)] eL_17 rfl (by decide) rfl ?_
  exact law_loop C X hend a a' (L + 5) 0 _ _ 0 (by omega) (by omega) rfl hR
set_option maxHeartbeats 4000000 in
set_option maxRecDepth 100000 in
theorem whole_start {p : Program} {e : Env} {s : State} {m : MethodId} {below : List Frame} {meth : Method} {c : Code} (l : Launch) (hflags : l.flags = flags0) {b L : Nat} {xs : Nat → Int32} (hL : L ≤ 2560) (C0 : lw_At p s m meth c b L xs) : W p l e room_1 s m #[Value.ref b] below meth c s.heap [] 0 0 (lw_Z below #[Value.ref b] s) (entryFrame m ([Value.ref b] : List Value).toArray 4) := by
  obtain ⟨hx, hb, hr, hml, hown, hts, hX, hbl, hlocks, hgv⟩ := id C0
  obtain ⟨D, c4, hK⟩ := sf_K hts
  obtain ⟨adK, adV, hZ⟩ := sf_Z (A := fun q : Nat => s.heap.size ≤ q) hts hgv (fun a h => Nat.not_le.mpr h)
  have hl := lv_entry ([.ref b]) (n := 4) (Nat.le_of_ble_eq_true rfl)
  rw [lg_entry_eq]
  generalize (lg_sl ([.ref b]) ++ List.replicate (4 - (lg_sl ([.ref b])).length) Slot.unset).toArray = ls at hl ⊢
  have hl : lv_has ls 4 [(0, .ref b)] := hl
  have C : zC (p, l, e, room_1, s, m, #[Value.ref b], below, meth, c, (D, c4, adK, adV), (fun q : Nat => s.heap.size ≤ q), lw_Z below #[Value.ref b] s) code RL 4 room_1 := ⟨rfl, hx, hb, hml, hown, fun w hw => hts w (TB_sub w hw), hK adK adV, fun q h => h, hZ D c4⟩
  have X : lwX (p, l, e, room_1, s, m, #[Value.ref b], below, meth, c, (D, c4, adK, adV), (fun q : Nat => s.heap.size ≤ q), lw_Z below #[Value.ref b] s) b L xs := ⟨hX, hbl, Nat.not_le.mpr hbl, hL⟩
  have hP : va_P D vwCl [] s.heap := fun k q h => by simp at h
  have hD : va_D (fun q : Nat => s.heap.size ≤ q) [] := ⟨fun i j p q h => by simp at h, fun k q h => by simp at h⟩
  exact law_start C X (fun ws lv H locs ls hP hD hS hl => va_forget (fun q hq => hS.2.2 q hq) (lw_ret hx hb hr hlocks eL_1105.1)) s.heap [] ls hP hD va_S.rf hl
