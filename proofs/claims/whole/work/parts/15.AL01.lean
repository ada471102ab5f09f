theorem eX10_astern_0 : zd 1 cX10_astern 0 1 (.aload_n 0) := ⟨by decide +kernel, rfl⟩
theorem eX10_astern_1 : zd 3 cX10_astern 1 4 (.getfield 69) := ⟨by decide +kernel, rfl⟩
theorem eX10_astern_4 : zd 1 cX10_astern 4 5 (.aload_n 0) := ⟨by decide +kernel, rfl⟩
theorem eX10_astern_5 : zd 3 cX10_astern 5 8 (.getfield 26) := ⟨by decide +kernel, rfl⟩
theorem eX10_astern_8 : zd 1 cX10_astern 8 9 (.aload_n 0) := ⟨by decide +kernel, rfl⟩
theorem eX10_astern_9 : zd 3 cX10_astern 9 12 (.getfield 47) := ⟨by decide +kernel, rfl⟩
theorem eX10_astern_12 : zd 3 cX10_astern 12 15 (.invokevirtual 242) := ⟨by decide +kernel, rfl⟩
theorem eX10_astern_15 : zd 1 cX10_astern 15 16 (.ireturn) := ⟨by decide +kernel, rfl⟩
theorem FX10_26 : zlF RX10 26 10 2 := ⟨(RX10, TX10, 15), rfl, by decide, q376, zin10⟩
theorem FX10_47 : zlF RX10 47 10 5 := ⟨(RX10, TX10, 15), rfl, by decide, q379, zin10⟩
theorem FX10_69 : zlF RX10 69 10 10 := ⟨(RX10, TX10, 15), rfl, by decide, q384, zin10⟩
theorem MX10_242 : zlV RX10 242 yX6_leastAstern cX6_leastAstern 4 ((Option.some FieldType.int)) 2 := ⟨q888, q889, q890, q9, q891, by decide, by decide, by decide +kernel⟩
noncomputable def f_AL_astern (v0 : tAL)  : Option (Int32 × (Nat → Int32) × Int64 × (Nat → Int32) × (Nat → Int32) × (Nat → Int32) × (Nat → Int32) × (Nat → Int32) × Int64 × (Nat → Int32) × (Nat → Int32) × (Nat → Int32) × (Nat → Int32)) := (Option.bind (f_Se_leastAstern (gAL_search v0) (gAL_quay v0) (gAL_ship v0)) (fun (r1 : Int32 × (Nat → Int32) × Int64 × (Nat → Int32) × (Nat → Int32) × (Nat → Int32) × (Nat → Int32) × (Nat → Int32) × Int64 × (Nat → Int32) × (Nat → Int32) × (Nat → Int32) × (Nat → Int32)) => (some ((r1.1), (r1.2.1), (r1.2.2.1), (r1.2.2.2.1), (r1.2.2.2.2.1), (r1.2.2.2.2.2.1), (r1.2.2.2.2.2.2.1), (r1.2.2.2.2.2.2.2.1), (r1.2.2.2.2.2.2.2.2.1), (r1.2.2.2.2.2.2.2.2.2.1), (r1.2.2.2.2.2.2.2.2.2.2.1), (r1.2.2.2.2.2.2.2.2.2.2.2.1), (r1.2.2.2.2.2.2.2.2.2.2.2.2)))))
abbrev rm_AL_astern : Room := { frames := 6, cells := 0, slots := 0, locals := 147 }
set_option maxHeartbeats 4000000 in
set_option maxRecDepth 100000 in
theorem c_AL_astern (l : Launch) (g : zGl) (a0 : Nat → Nat) (o0 : Nat) (v0 : tAL)  (out : Int32 × (Nat → Int32) × Int64 × (Nat → Int32) × (Nat → Int32) × (Nat → Int32) × (Nat → Int32) × (Nat → Int32) × Int64 × (Nat → Int32) × (Nat → Int32) × (Nat → Int32) × (Nat → Int32)) (hf : f_AL_astern v0 = some out) : zMi l yX10_astern cX10_astern 1 rm_AL_astern g [.ref (a0 o0)] (w_AL g a0 o0 v0) (out.1) (w_AL g a0 o0 (sAL_search v0 (sSe_probe (sSe_base (gAL_search v0) (sSh_lines (sSh_harm (sSh_ints (gSe_base (gAL_search v0)) (out.2.1)) (out.2.2.1)) (sLi_length (sLi_post (sLi_place (sLi_fast (gSh_lines (gSe_base (gAL_search v0))) (out.2.2.2.1)) (out.2.2.2.2.1)) (out.2.2.2.2.2.1)) (out.2.2.2.2.2.2.1)))) (sSh_lines (sSh_harm (sSh_ints (gSe_probe (gAL_search v0)) (out.2.2.2.2.2.2.2.1)) (out.2.2.2.2.2.2.2.2.1)) (sLi_length (sLi_post (sLi_place (sLi_fast (gSh_lines (gSe_probe (gAL_search v0))) (out.2.2.2.2.2.2.2.2.2.1)) (out.2.2.2.2.2.2.2.2.2.2.1)) (out.2.2.2.2.2.2.2.2.2.2.2.1)) (out.2.2.2.2.2.2.2.2.2.2.2.2)))))) := by
  refine zMi_of (lv := [(0, .ref (a0 o0))]) (by decide) (Nat.le_of_ble_eq_true rfl) rfl (fun x hl hg C hret => ?_)
  subst hl; subst hg
  rw [f_AL_astern] at hf
  refine r_aload_n C eX10_astern_0 0 rfl rfl ?_
  refine r_get (v := .ref (a0 (o0 + 51))) C eX10_astern_1 FX10_69 0 rfl rfl ?_
  refine r_aload_n C eX10_astern_4 0 rfl rfl ?_
  refine r_get (v := .ref (a0 (o0 + 18))) C eX10_astern_5 FX10_26 0 rfl rfl ?_
  refine r_aload_n C eX10_astern_8 0 rfl rfl ?_
  refine r_get (v := .ref (a0 (o0 + 27))) C eX10_astern_9 FX10_47 0 rfl rfl ?_
  obtain ⟨r1, hr1, hf⟩ := zbind hf
  refine r_V_i (ws' := w_AL (z_g x) a0 o0 (sAL_search v0 (sSe_probe (sSe_base (gAL_search v0) (sSh_lines (sSh_harm (sSh_ints (gSe_base (gAL_search v0)) (r1.2.1)) (r1.2.2.1)) (sLi_length (sLi_post (sLi_place (sLi_fast (gSh_lines (gSe_base (gAL_search v0))) (r1.2.2.2.1)) (r1.2.2.2.2.1)) (r1.2.2.2.2.2.1)) (r1.2.2.2.2.2.2.1)))) (sSh_lines (sSh_harm (sSh_ints (gSe_probe (gAL_search v0)) (r1.2.2.2.2.2.2.2.1)) (r1.2.2.2.2.2.2.2.2.1)) (sLi_length (sLi_post (sLi_place (sLi_fast (gSh_lines (gSe_probe (gAL_search v0))) (r1.2.2.2.2.2.2.2.2.2.1)) (r1.2.2.2.2.2.2.2.2.2.2.1)) (r1.2.2.2.2.2.2.2.2.2.2.2.1)) (r1.2.2.2.2.2.2.2.2.2.2.2.2)))))) C (c_Se_leastAstern (z_l x) (z_g x) a0 (o0 + 51) (gAL_search v0) a0 (o0 + 18) (gAL_quay v0) a0 (o0 + 27) (gAL_ship v0)  r1 hr1) eX10_astern_12 MX10_242 ⟨0, 6, _, _, rfl, rfl, rfl⟩ [51, 52, 53, 54, 55, 56, 57, 58, 59, 60, 61, 62, 63, 64, 65, 66, 18, 19, 20, 27, 28, 29, 30, 31, 32] rfl rfl rfl rfl rfl rfl rfl rfl rfl ?_
  obtain rfl := Option.some.inj (show some (((r1.1), (r1.2.1), (r1.2.2.1), (r1.2.2.2.1), (r1.2.2.2.2.1), (r1.2.2.2.2.2.1), (r1.2.2.2.2.2.2.1), (r1.2.2.2.2.2.2.2.1), (r1.2.2.2.2.2.2.2.2.1), (r1.2.2.2.2.2.2.2.2.2.1), (r1.2.2.2.2.2.2.2.2.2.2.1), (r1.2.2.2.2.2.2.2.2.2.2.2.1), (r1.2.2.2.2.2.2.2.2.2.2.2.2)) : Int32 × (Nat → Int32) × Int64 × (Nat → Int32) × (Nat → Int32) × (Nat → Int32) × (Nat → Int32) × (Nat → Int32) × Int64 × (Nat → Int32) × (Nat → Int32) × (Nat → Int32) × (Nat → Int32)) = some _ from hf)
  exact hret _ _ _ eX10_astern_15
theorem eX10_cast_0 : zd 1 cX10_cast 0 1 (.aload_n 0) := ⟨by decide +kernel, rfl⟩
theorem eX10_cast_1 : zd 3 cX10_cast 1 4 (.getfield 47) := ⟨by decide +kernel, rfl⟩
theorem eX10_cast_4 : zd 3 cX10_cast 4 7 (.getfield 187) := ⟨by decide +kernel, rfl⟩
theorem eX10_cast_7 : zd 1 cX10_cast 7 8 (.iload_n 1) := ⟨by decide +kernel, rfl⟩
theorem eX10_cast_8 : zd 3 cX10_cast 8 11 (.invokevirtual 191) := ⟨by decide +kernel, rfl⟩
theorem eX10_cast_11 : zdi cX10_cast 11 14 17 (.ifCond .ne) := ⟨6, by decide +kernel, rfl, by decide⟩
theorem eX10_cast_14 : zd 2 cX10_cast 14 16 (.ldc 147) := ⟨by decide +kernel, rfl⟩
theorem eX10_cast_16 : zd 1 cX10_cast 16 17 (.ireturn) := ⟨by decide +kernel, rfl⟩
theorem eX10_cast_17 : zd 1 cX10_cast 17 18 (.aload_n 0) := ⟨by decide +kernel, rfl⟩
theorem eX10_cast_18 : zd 3 cX10_cast 18 21 (.getfield 47) := ⟨by decide +kernel, rfl⟩
theorem eX10_cast_21 : zd 3 cX10_cast 21 24 (.getfield 187) := ⟨by decide +kernel, rfl⟩
theorem eX10_cast_24 : zd 3 cX10_cast 24 27 (.getfield 213) := ⟨by decide +kernel, rfl⟩
theorem eX10_cast_27 : zd 1 cX10_cast 27 28 (.iload_n 1) := ⟨by decide +kernel, rfl⟩
theorem eX10_cast_28 : zd 1 cX10_cast 28 29 (.iconst 0) := ⟨by decide +kernel, rfl⟩
theorem eX10_cast_29 : zd 1 cX10_cast 29 30 (.bastore) := ⟨by decide +kernel, rfl⟩
theorem eX10_cast_30 : zd 1 cX10_cast 30 31 (.aload_n 0) := ⟨by decide +kernel, rfl⟩
theorem eX10_cast_31 : zd 3 cX10_cast 31 34 (.getfield 47) := ⟨by decide +kernel, rfl⟩
theorem eX10_cast_34 : zd 3 cX10_cast 34 37 (.getfield 187) := ⟨by decide +kernel, rfl⟩
theorem eX10_cast_37 : zd 3 cX10_cast 37 40 (.getfield 210) := ⟨by decide +kernel, rfl⟩
theorem eX10_cast_40 : zd 1 cX10_cast 40 41 (.iload_n 1) := ⟨by decide +kernel, rfl⟩
theorem eX10_cast_41 : zd 1 cX10_cast 41 42 (.iaload) := ⟨by decide +kernel, rfl⟩
theorem eX10_cast_42 : zd 1 cX10_cast 42 43 (.ireturn) := ⟨by decide +kernel, rfl⟩
theorem FX10_187 : zlF RX10 187 7 14 := ⟨(RX7, TX7, 18), rfl, by decide, q257, zin7⟩
theorem FX10_210 : zlF RX10 210 1 3 := ⟨(RX1, TX1, 4), rfl, by decide, q219, zin1⟩
theorem FX10_213 : zlF RX10 213 1 0 := ⟨(RX1, TX1, 4), rfl, by decide, q208, zin1⟩
theorem MX10_191 : zlV RX10 191 yX1_isFast cX1_isFast 2 ((Option.some FieldType.boolean)) 1 := ⟨q797, q798, q799, q8, q800, by decide, by decide, by decide +kernel⟩
noncomputable def f_AL_cast (v0 : tAL) (p1 : Int32) : Option (Int32 × (Nat → Int32)) := (Option.bind (f_Li_isFast (gSh_lines (gAL_ship v0)) p1) (fun (r1 : Int32) => (if r1 = 0 then (some ((-1000000001), (gLi_fast (gSh_lines (gAL_ship v0))))) else (if inb p1 6 = true then (if inb p1 6 = true then (some (((gLi_length (gSh_lines (gAL_ship v0))) (ix p1)), (upd (gLi_fast (gSh_lines (gAL_ship v0))) (ix p1) (vp_nar .boolean 0)))) else none) else none))))
abbrev rm_AL_cast : Room := { frames := 1, cells := 0, slots := 0, locals := 21 }
set_option maxHeartbeats 4000000 in
set_option maxRecDepth 100000 in
theorem c_AL_cast (l : Launch) (g : zGl) (a0 : Nat → Nat) (o0 : Nat) (v0 : tAL) (p1 : Int32) (out : Int32 × (Nat → Int32)) (hf : f_AL_cast v0 p1 = some out) : zMi l yX10_cast cX10_cast 2 rm_AL_cast g [.ref (a0 o0), .int p1] (w_AL g a0 o0 v0) (out.1) (w_AL g a0 o0 (sAL_ship v0 (sSh_lines (gAL_ship v0) (sLi_fast (gSh_lines (gAL_ship v0)) (out.2))))) := by
  refine zMi_of (lv := [(0, .ref (a0 o0)), (1, .int p1)]) (by decide) (Nat.le_of_ble_eq_true rfl) rfl (fun x hl hg C hret => ?_)
  subst hl; subst hg
  rw [f_AL_cast] at hf
  refine r_aload_n C eX10_cast_0 0 rfl rfl ?_
  refine r_get (v := .ref (a0 (o0 + 27))) C eX10_cast_1 FX10_47 0 rfl rfl ?_
  refine r_get (v := .ref (a0 ((o0 + 27) + 1))) C eX10_cast_4 FX10_187 27 rfl rfl ?_
  refine r_iload_n C eX10_cast_7 1 rfl rfl ?_
  obtain ⟨r1, hr1, hf⟩ := zbind hf
  refine r_V_z (ws' := w_AL (z_g x) a0 o0 v0) C (c_Li_isFast (z_l x) (z_g x) a0 ((o0 + 27) + 1) (gSh_lines (gAL_ship v0)) p1 r1 hr1) eX10_cast_8 MX10_191 ⟨0, 1, _, _, rfl, rfl, rfl⟩ [28, 29, 30, 31, 32] rfl rfl rfl rfl rfl rfl rfl rfl rfl (fun zb2 => ?_)
  refine r_if_ne C eX10_cast_11 (fun c3 => ?_) (fun c3 => ?_)
  · rw [if_neg c3] at hf
    refine r_aload_n C eX10_cast_17 0 rfl rfl ?_
    refine r_get (v := .ref (a0 (o0 + 27))) C eX10_cast_18 FX10_47 0 rfl rfl ?_
    refine r_get (v := .ref (a0 ((o0 + 27) + 1))) C eX10_cast_21 FX10_187 27 rfl rfl ?_
    refine r_get (v := .ref (a0 (((o0 + 27) + 1) + 1))) C eX10_cast_24 FX10_213 28 rfl rfl ?_
    refine r_iload_n C eX10_cast_27 1 rfl rfl ?_
    refine r_iconst C (v := 0) eX10_cast_28 (by decide) ?_
    obtain ⟨hb4, hf⟩ := zchk hf
    refine r_zast (ws' := w_AL (z_g x) a0 o0 (sAL_ship v0 (sSh_lines (gAL_ship v0) (sLi_fast (gSh_lines (gAL_ship v0)) (upd (gLi_fast (gSh_lines (gAL_ship v0))) (ix p1) (vp_nar .boolean 0)))))) C eX10_cast_29 29 rfl (inb_in hb4) rfl ?_
    refine r_aload_n C eX10_cast_30 0 rfl rfl ?_
    refine r_get (v := .ref (a0 (o0 + 27))) C eX10_cast_31 FX10_47 0 rfl rfl ?_
    refine r_get (v := .ref (a0 ((o0 + 27) + 1))) C eX10_cast_34 FX10_187 27 rfl rfl ?_
    refine r_get (v := .ref (a0 (((o0 + 27) + 1) + 4))) C eX10_cast_37 FX10_210 28 rfl rfl ?_
    refine r_iload_n C eX10_cast_40 1 rfl rfl ?_
    obtain ⟨hb5, hf⟩ := zchk hf
    refine r_iald C eX10_cast_41 32 rfl (inb_in hb5) ((gLi_length (gSh_lines (gAL_ship v0))) (ix p1)) rfl ?_
    obtain rfl := Option.some.inj (show some ((((gLi_length (gSh_lines (gAL_ship v0))) (ix p1)), (upd (gLi_fast (gSh_lines (gAL_ship v0))) (ix p1) (vp_nar .boolean 0))) : Int32 × (Nat → Int32)) = some _ from hf)
    exact hret _ _ _ eX10_cast_42
  · rw [if_pos c3] at hf
    refine r_ldc C (v := (-1000000001)) eX10_cast_14 q649 ?_
    obtain rfl := Option.some.inj (show some (((-1000000001), (gLi_fast (gSh_lines (gAL_ship v0)))) : Int32 × (Nat → Int32)) = some _ from hf)
    exact hret _ _ _ eX10_cast_16
theorem eX10_clear_0 : zd 1 cX10_clear 0 1 (.aload_n 0) := ⟨by decide +kernel, rfl⟩
theorem eX10_clear_1 : zd 3 cX10_clear 1 4 (.getfield 301) := ⟨by decide +kernel, rfl⟩
theorem eX10_clear_4 : zd 1 cX10_clear 4 5 (.istore_n 1) := ⟨by decide +kernel, rfl⟩
theorem eX10_clear_5 : zd 1 cX10_clear 5 6 (.aload_n 0) := ⟨by decide +kernel, rfl⟩
theorem eX10_clear_6 : zd 1 cX10_clear 6 7 (.iconst 0) := ⟨by decide +kernel, rfl⟩
theorem eX10_clear_7 : zd 3 cX10_clear 7 10 (.putfield 301) := ⟨by decide +kernel, rfl⟩
theorem eX10_clear_10 : zd 1 cX10_clear 10 11 (.iload_n 1) := ⟨by decide +kernel, rfl⟩
theorem eX10_clear_11 : zd 1 cX10_clear 11 12 (.ireturn) := ⟨by decide +kernel, rfl⟩
theorem FX10_301 : zlF RX10 301 10 13 := ⟨(RX10, TX10, 15), rfl, by decide, q387, zin10⟩
theorem PX10_301 : zlP RX10 301 10 13 .int := ⟨(RX10, TX10, 15), tyX10, rfl, by decide, q387, zin10, tyX10_ok, nmX10, rfl, by decide +kernel⟩
noncomputable def f_AL_clear (v0 : tAL)  : Int32 × (Nat → Int32) := (((gAL_ints v0) 13), (upd (gAL_ints v0) 13 0))
abbrev rm_AL_clear : Room := { frames := 0, cells := 0, slots := 0, locals := 0 }
set_option maxHeartbeats 4000000 in
set_option maxRecDepth 100000 in
theorem c_AL_clear (l : Launch) (g : zGl) (a0 : Nat → Nat) (o0 : Nat) (v0 : tAL)  (out : Int32 × (Nat → Int32)) (hf : f_AL_clear v0 = out) : zMi l yX10_clear cX10_clear 2 rm_AL_clear g [.ref (a0 o0)] (w_AL g a0 o0 v0) (out.1) (w_AL g a0 o0 (sAL_ints v0 (out.2))) := by
  refine zMi_of (lv := [(0, .ref (a0 o0))]) (by decide) (Nat.le_of_ble_eq_true rfl) rfl (fun x hl hg C hret => ?_)
  subst hl; subst hg
  rw [f_AL_clear] at hf
  refine r_aload_n C eX10_clear_0 0 rfl rfl ?_
  refine r_get (v := .int ((gAL_ints v0) 13)) C eX10_clear_1 FX10_301 0 rfl rfl ?_
  refine r_istore_n C [(1, .int ((gAL_ints v0) 13)), (0, .ref (a0 o0))] eX10_clear_4 rfl (by decide) rfl ?_
  refine r_aload_n C eX10_clear_5 1 rfl rfl ?_
  refine r_iconst C (v := 0) eX10_clear_6 (by decide) ?_
  refine r_put (ws' := w_AL (z_g x) a0 o0 (sAL_ints v0 (upd (gAL_ints v0) 13 0))) C eX10_clear_7 PX10_301 0 rfl rfl rfl (Nat.le_of_ble_eq_true rfl) rfl ?_
  refine r_iload_n C eX10_clear_10 0 rfl rfl ?_
  subst hf
  exact hret _ _ _ eX10_clear_11
theorem eX10_does_0 : zd 1 cX10_does 0 1 (.aload_n 0) := ⟨by decide +kernel, rfl⟩
theorem eX10_does_1 : zd 3 cX10_does 1 4 (.getfield 26) := ⟨by decide +kernel, rfl⟩
theorem eX10_does_4 : zd 1 cX10_does 4 5 (.iload_n 2) := ⟨by decide +kernel, rfl⟩
theorem eX10_does_5 : zd 3 cX10_does 5 8 (.invokevirtual 144) := ⟨by decide +kernel, rfl⟩
theorem eX10_does_8 : zdi cX10_does 8 11 14 (.ifCond .ne) := ⟨6, by decide +kernel, rfl, by decide⟩
theorem eX10_does_11 : zd 2 cX10_does 11 13 (.ldc 147) := ⟨by decide +kernel, rfl⟩
theorem eX10_does_13 : zd 1 cX10_does 13 14 (.ireturn) := ⟨by decide +kernel, rfl⟩
theorem eX10_does_14 : zd 1 cX10_does 14 15 (.iload_n 1) := ⟨by decide +kernel, rfl⟩
theorem eX10_does_15 : zd 3 cX10_does 15 18 (.invokestatic 184) := ⟨by decide +kernel, rfl⟩
theorem eX10_does_18 : zdi cX10_does 18 21 24 (.ifCond .ne) := ⟨6, by decide +kernel, rfl, by decide⟩
theorem eX10_does_21 : zd 2 cX10_does 21 23 (.ldc 97) := ⟨by decide +kernel, rfl⟩
theorem eX10_does_23 : zd 1 cX10_does 23 24 (.ireturn) := ⟨by decide +kernel, rfl⟩
theorem eX10_does_24 : zd 1 cX10_does 24 25 (.aload_n 0) := ⟨by decide +kernel, rfl⟩
theorem eX10_does_25 : zd 3 cX10_does 25 28 (.getfield 47) := ⟨by decide +kernel, rfl⟩
theorem eX10_does_28 : zd 1 cX10_does 28 29 (.aload_n 0) := ⟨by decide +kernel, rfl⟩
theorem eX10_does_29 : zd 3 cX10_does 29 32 (.getfield 26) := ⟨by decide +kernel, rfl⟩
theorem eX10_does_32 : zd 1 cX10_does 32 33 (.iload_n 1) := ⟨by decide +kernel, rfl⟩
theorem eX10_does_33 : zd 1 cX10_does 33 34 (.iload_n 2) := ⟨by decide +kernel, rfl⟩
theorem eX10_does_34 : zd 3 cX10_does 34 37 (.invokevirtual 229) := ⟨by decide +kernel, rfl⟩
theorem eX10_does_37 : zd 1 cX10_does 37 38 (.ireturn) := ⟨by decide +kernel, rfl⟩
theorem MX10_144 : zlV RX10 144 yX4_hasPost cX4_hasPost 2 ((Option.some FieldType.boolean)) 1 := ⟨q645, q646, q647, q4, q648, by decide, by decide, by decide +kernel⟩
theorem MX10_184 : zlS RX10 184 yX7_isPlace cX7_isPlace 1 ((Option.some FieldType.boolean)) 1 := ⟨q794, q795, q7, q796, by decide, by decide, by decide +kernel⟩
theorem MX10_229 : zlV RX10 229 yX7_effectOf cX7_effectOf 6 ((Option.some FieldType.int)) 3 := ⟨q863, q864, q865, q7, q866, by decide, by decide, by decide +kernel⟩
noncomputable def f_AL_does (v0 : tAL) (p1 : Int32) (p2 : Int32) : Option (Int32) := (if (f_Qu_hasPost (gAL_quay v0) p2) = 0 then (some (-1000000001)) else (if (f_Sh_isPlace p1) = 0 then (some (-1000000002)) else (Option.bind (f_Sh_effectOf (gAL_ship v0) (gAL_quay v0) p1 p2) (fun (r5 : Int32) => (some r5)))))
abbrev rm_AL_does : Room := { frames := 3, cells := 0, slots := 0, locals := 69 }
set_option maxHeartbeats 4000000 in
set_option maxRecDepth 100000 in
theorem c_AL_does (l : Launch) (g : zGl) (a0 : Nat → Nat) (o0 : Nat) (v0 : tAL) (p1 : Int32) (p2 : Int32) (out : Int32) (hf : f_AL_does v0 p1 p2 = some out) : zMi l yX10_does cX10_does 3 rm_AL_does g [.ref (a0 o0), .int p1, .int p2] (w_AL g a0 o0 v0) out (w_AL g a0 o0 v0) := by
  refine zMi_of (lv := [(0, .ref (a0 o0)), (1, .int p1), (2, .int p2)]) (by decide) (Nat.le_of_ble_eq_true rfl) rfl (fun x hl hg C hret => ?_)
  subst hl; subst hg
  rw [f_AL_does] at hf
  refine r_aload_n C eX10_does_0 0 rfl rfl ?_
  refine r_get (v := .ref (a0 (o0 + 18))) C eX10_does_1 FX10_26 0 rfl rfl ?_
  refine r_iload_n C eX10_does_4 2 rfl rfl ?_
  refine r_V_z (ws' := w_AL (z_g x) a0 o0 v0) C (c_Qu_hasPost (z_l x) (z_g x) a0 (o0 + 18) (gAL_quay v0) p2 _ rfl) eX10_does_5 MX10_144 ⟨0, 4, _, _, rfl, rfl, rfl⟩ [18, 19, 20] rfl rfl rfl rfl rfl rfl rfl rfl rfl (fun zb1 => ?_)
  refine r_if_ne C eX10_does_8 (fun c2 => ?_) (fun c2 => ?_)
  · rw [if_neg c2] at hf
    refine r_iload_n C eX10_does_14 1 rfl rfl ?_
    refine r_S_z (ws' := w_AL (z_g x) a0 o0 v0) C (c_Sh_isPlace (z_l x) (z_g x)  p1 _ rfl) eX10_does_15 MX10_184 [] rfl rfl rfl rfl rfl rfl rfl rfl rfl (fun zb3 => ?_)
    refine r_if_ne C eX10_does_18 (fun c4 => ?_) (fun c4 => ?_)
    · rw [if_neg c4] at hf
      refine r_aload_n C eX10_does_24 0 rfl rfl ?_
      refine r_get (v := .ref (a0 (o0 + 27))) C eX10_does_25 FX10_47 0 rfl rfl ?_
      refine r_aload_n C eX10_does_28 0 rfl rfl ?_
      refine r_get (v := .ref (a0 (o0 + 18))) C eX10_does_29 FX10_26 0 rfl rfl ?_
      refine r_iload_n C eX10_does_32 1 rfl rfl ?_
      refine r_iload_n C eX10_does_33 2 rfl rfl ?_
      obtain ⟨r5, hr5, hf⟩ := zbind hf
      refine r_V_i (ws' := w_AL (z_g x) a0 o0 v0) C (c_Sh_effectOf (z_l x) (z_g x) a0 (o0 + 27) (gAL_ship v0) a0 (o0 + 18) (gAL_quay v0) p1 p2 r5 hr5) eX10_does_34 MX10_229 ⟨0, 7, _, _, rfl, rfl, rfl⟩ [27, 28, 29, 30, 31, 32, 18, 19, 20] rfl rfl rfl rfl rfl rfl rfl rfl rfl ?_
      obtain rfl := Option.some.inj (show some (r5 : Int32) = some _ from hf)
      exact hret _ _ _ eX10_does_37
    · rw [if_pos c4] at hf
      refine r_ldc C (v := (-1000000002)) eX10_does_21 q424 ?_
      obtain rfl := Option.some.inj (show some ((-1000000002) : Int32) = some _ from hf)
      exact hret _ _ _ eX10_does_23
  · rw [if_pos c2] at hf
    refine r_ldc C (v := (-1000000001)) eX10_does_11 q649 ?_
    obtain rfl := Option.some.inj (show some ((-1000000001) : Int32) = some _ from hf)
    exact hret _ _ _ eX10_does_13
theorem eX10_fast_0 : zd 1 cX10_fast 0 1 (.iload_n 1) := ⟨by decide +kernel, rfl⟩
theorem eX10_fast_1 : zd 3 cX10_fast 1 4 (.invokestatic 179) := ⟨by decide +kernel, rfl⟩
theorem eX10_fast_4 : zdi cX10_fast 4 7 18 (.ifCond .eq) := ⟨14, by decide +kernel, rfl, by decide⟩
theorem eX10_fast_7 : zd 1 cX10_fast 7 8 (.aload_n 0) := ⟨by decide +kernel, rfl⟩
theorem eX10_fast_8 : zd 3 cX10_fast 8 11 (.getfield 26) := ⟨by decide +kernel, rfl⟩
theorem eX10_fast_11 : zd 1 cX10_fast 11 12 (.iload_n 3) := ⟨by decide +kernel, rfl⟩
theorem eX10_fast_12 : zd 3 cX10_fast 12 15 (.invokevirtual 144) := ⟨by decide +kernel, rfl⟩
theorem eX10_fast_15 : zdi cX10_fast 15 18 21 (.ifCond .ne) := ⟨6, by decide +kernel, rfl, by decide⟩
theorem eX10_fast_18 : zd 2 cX10_fast 18 20 (.ldc 147) := ⟨by decide +kernel, rfl⟩
theorem eX10_fast_20 : zd 1 cX10_fast 20 21 (.ireturn) := ⟨by decide +kernel, rfl⟩
theorem eX10_fast_21 : zd 1 cX10_fast 21 22 (.iload_n 2) := ⟨by decide +kernel, rfl⟩
theorem eX10_fast_22 : zd 3 cX10_fast 22 25 (.invokestatic 184) := ⟨by decide +kernel, rfl⟩
theorem eX10_fast_25 : zdi cX10_fast 25 28 42 (.ifCond .eq) := ⟨17, by decide +kernel, rfl, by decide⟩
theorem eX10_fast_28 : zd 2 cX10_fast 28 30 (.iload 4) := ⟨by decide +kernel, rfl⟩
theorem eX10_fast_30 : zd 1 cX10_fast 30 31 (.iconst (-1)) := ⟨by decide +kernel, rfl⟩
theorem eX10_fast_31 : zdi cX10_fast 31 34 42 (.if_icmp .lt) := ⟨11, by decide +kernel, rfl, by decide⟩
theorem eX10_fast_34 : zd 2 cX10_fast 34 36 (.iload 4) := ⟨by decide +kernel, rfl⟩
theorem eX10_fast_36 : zd 3 cX10_fast 36 39 (.sipush 9999) := ⟨by decide +kernel, rfl⟩
theorem eX10_fast_39 : zdi cX10_fast 39 42 45 (.if_icmp .le) := ⟨6, by decide +kernel, rfl, by decide⟩
theorem eX10_fast_42 : zd 2 cX10_fast 42 44 (.ldc 97) := ⟨by decide +kernel, rfl⟩
theorem eX10_fast_44 : zd 1 cX10_fast 44 45 (.ireturn) := ⟨by decide +kernel, rfl⟩
theorem eX10_fast_45 : zd 1 cX10_fast 45 46 (.aload_n 0) := ⟨by decide +kernel, rfl⟩
theorem eX10_fast_46 : zd 3 cX10_fast 46 49 (.getfield 47) := ⟨by decide +kernel, rfl⟩
theorem eX10_fast_49 : zd 3 cX10_fast 49 52 (.getfield 187) := ⟨by decide +kernel, rfl⟩
theorem eX10_fast_52 : zd 1 cX10_fast 52 53 (.iload_n 1) := ⟨by decide +kernel, rfl⟩
theorem eX10_fast_53 : zd 3 cX10_fast 53 56 (.invokevirtual 191) := ⟨by decide +kernel, rfl⟩
theorem eX10_fast_56 : zdi cX10_fast 56 59 62 (.ifCond .eq) := ⟨6, by decide +kernel, rfl, by decide⟩
theorem eX10_fast_59 : zd 2 cX10_fast 59 61 (.ldc 194) := ⟨by decide +kernel, rfl⟩
theorem eX10_fast_61 : zd 1 cX10_fast 61 62 (.ireturn) := ⟨by decide +kernel, rfl⟩
theorem eX10_fast_62 : zd 2 cX10_fast 62 64 (.iload 4) := ⟨by decide +kernel, rfl⟩
theorem eX10_fast_64 : zd 1 cX10_fast 64 65 (.iconst (-1)) := ⟨by decide +kernel, rfl⟩
theorem eX10_fast_65 : zdi cX10_fast 65 68 84 (.if_icmp .ne) := ⟨19, by decide +kernel, rfl, by decide⟩
theorem eX10_fast_68 : zd 1 cX10_fast 68 69 (.aload_n 0) := ⟨by decide +kernel, rfl⟩
theorem eX10_fast_69 : zd 3 cX10_fast 69 72 (.getfield 47) := ⟨by decide +kernel, rfl⟩
theorem eX10_fast_72 : zd 1 cX10_fast 72 73 (.aload_n 0) := ⟨by decide +kernel, rfl⟩
theorem eX10_fast_73 : zd 3 cX10_fast 73 76 (.getfield 26) := ⟨by decide +kernel, rfl⟩
theorem eX10_fast_76 : zd 1 cX10_fast 76 77 (.iload_n 2) := ⟨by decide +kernel, rfl⟩
theorem eX10_fast_77 : zd 1 cX10_fast 77 78 (.iload_n 3) := ⟨by decide +kernel, rfl⟩
theorem eX10_fast_78 : zd 3 cX10_fast 78 81 (.invokevirtual 195) := ⟨by decide +kernel, rfl⟩
theorem eX10_fast_81 : zdi cX10_fast 81 84 86 (.goto) := ⟨5, by decide +kernel, rfl, by decide⟩
theorem eX10_fast_84 : zd 2 cX10_fast 84 86 (.iload 4) := ⟨by decide +kernel, rfl⟩
theorem eX10_fast_86 : zd 2 cX10_fast 86 88 (.istore 5) := ⟨by decide +kernel, rfl⟩
theorem eX10_fast_88 : zd 1 cX10_fast 88 89 (.aload_n 0) := ⟨by decide +kernel, rfl⟩
theorem eX10_fast_89 : zd 3 cX10_fast 89 92 (.getfield 47) := ⟨by decide +kernel, rfl⟩
theorem eX10_fast_92 : zd 3 cX10_fast 92 95 (.getfield 187) := ⟨by decide +kernel, rfl⟩
theorem eX10_fast_95 : zd 1 cX10_fast 95 96 (.iload_n 1) := ⟨by decide +kernel, rfl⟩
theorem eX10_fast_96 : zd 1 cX10_fast 96 97 (.iload_n 2) := ⟨by decide +kernel, rfl⟩
theorem eX10_fast_97 : zd 1 cX10_fast 97 98 (.iload_n 3) := ⟨by decide +kernel, rfl⟩
theorem eX10_fast_98 : zd 2 cX10_fast 98 100 (.iload 5) := ⟨by decide +kernel, rfl⟩
theorem eX10_fast_100 : zd 3 cX10_fast 100 103 (.invokevirtual 199) := ⟨by decide +kernel, rfl⟩
theorem eX10_fast_103 : zd 2 cX10_fast 103 105 (.iload 5) := ⟨by decide +kernel, rfl⟩
theorem eX10_fast_105 : zd 1 cX10_fast 105 106 (.ireturn) := ⟨by decide +kernel, rfl⟩
theorem MX10_179 : zlS RX10 179 yX1_isNumber cX1_isNumber 1 ((Option.some FieldType.boolean)) 1 := ⟨q791, q792, q8, q793, by decide, by decide, by decide +kernel⟩
theorem MX10_195 : zlV RX10 195 yX7_distance cX7_distance 4 ((Option.some FieldType.int)) 3 := ⟨q802, q803, q804, q7, q805, by decide, by decide, by decide +kernel⟩
theorem MX10_199 : zlV RX10 199 yX1_makeFast cX1_makeFast 5 (none) 4 := ⟨q810, q811, q812, q8, q813, by decide, by decide, by decide +kernel⟩
noncomputable def f_AL_fast (v0 : tAL) (p1 : Int32) (p2 : Int32) (p3 : Int32) (p4 : Int32) : Option (Int32 × (Nat → Int32) × (Nat → Int32) × (Nat → Int32) × (Nat → Int32)) := (if (f_Li_isNumber p1) = 0 then (some ((-1000000001), (gLi_fast (gSh_lines (gAL_ship v0))), (gLi_place (gSh_lines (gAL_ship v0))), (gLi_post (gSh_lines (gAL_ship v0))), (gLi_length (gSh_lines (gAL_ship v0))))) else (if (f_Qu_hasPost (gAL_quay v0) p3) = 0 then (some ((-1000000001), (gLi_fast (gSh_lines (gAL_ship v0))), (gLi_place (gSh_lines (gAL_ship v0))), (gLi_post (gSh_lines (gAL_ship v0))), (gLi_length (gSh_lines (gAL_ship v0))))) else (if (f_Sh_isPlace p2) = 0 then (some ((-1000000002), (gLi_fast (gSh_lines (gAL_ship v0))), (gLi_place (gSh_lines (gAL_ship v0))), (gLi_post (gSh_lines (gAL_ship v0))), (gLi_length (gSh_lines (gAL_ship v0))))) else (if p4 < (-1) then (some ((-1000000002), (gLi_fast (gSh_lines (gAL_ship v0))), (gLi_place (gSh_lines (gAL_ship v0))), (gLi_post (gSh_lines (gAL_ship v0))), (gLi_length (gSh_lines (gAL_ship v0))))) else (if p4 ≤ 9999 then (Option.bind (f_Li_isFast (gSh_lines (gAL_ship v0)) p1) (fun (r9 : Int32) => (if r9 = 0 then (Option.bind (if p4 = (-1) then (Option.bind (f_Sh_distance (gAL_ship v0) (gAL_quay v0) p2 p3) (fun (r15 : Int32) => (some r15))) else (some p4)) (fun (w12 : Int32) => (Option.bind (f_Li_makeFast (gSh_lines (gAL_ship v0)) p1 p2 p3 w12) (fun (r16 : (Nat → Int32) × (Nat → Int32) × (Nat → Int32) × (Nat → Int32)) => (some (w12, (r16.1), (r16.2.1), (r16.2.2.1), (r16.2.2.2))))))) else (some ((-1000000003), (gLi_fast (gSh_lines (gAL_ship v0))), (gLi_place (gSh_lines (gAL_ship v0))), (gLi_post (gSh_lines (gAL_ship v0))), (gLi_length (gSh_lines (gAL_ship v0)))))))) else (some ((-1000000002), (gLi_fast (gSh_lines (gAL_ship v0))), (gLi_place (gSh_lines (gAL_ship v0))), (gLi_post (gSh_lines (gAL_ship v0))), (gLi_length (gSh_lines (gAL_ship v0))))))))))
abbrev rm_AL_fast : Room := { frames := 3, cells := 0, slots := 0, locals := 72 }
set_option maxHeartbeats 4000000 in
set_option maxRecDepth 100000 in
theorem c_AL_fast (l : Launch) (g : zGl) (a0 : Nat → Nat) (o0 : Nat) (v0 : tAL) (p1 : Int32) (p2 : Int32) (p3 : Int32) (p4 : Int32) (out : Int32 × (Nat → Int32) × (Nat → Int32) × (Nat → Int32) × (Nat → Int32)) (hf : f_AL_fast v0 p1 p2 p3 p4 = some out) : zMi l yX10_fast cX10_fast 6 rm_AL_fast g [.ref (a0 o0), .int p1, .int p2, .int p3, .int p4] (w_AL g a0 o0 v0) (out.1) (w_AL g a0 o0 (sAL_ship v0 (sSh_lines (gAL_ship v0) (sLi_length (sLi_post (sLi_place (sLi_fast (gSh_lines (gAL_ship v0)) (out.2.1)) (out.2.2.1)) (out.2.2.2.1)) (out.2.2.2.2))))) := by
  refine zMi_of (lv := [(0, .ref (a0 o0)), (1, .int p1), (2, .int p2), (3, .int p3), (4, .int p4)]) (by decide) (Nat.le_of_ble_eq_true rfl) rfl (fun x hl hg C hret => ?_)
  subst hl; subst hg
  rw [f_AL_fast] at hf
  refine r_iload_n C eX10_fast_0 1 rfl rfl ?_
  refine r_S_z (ws' := w_AL (z_g x) a0 o0 v0) C (c_Li_isNumber (z_l x) (z_g x)  p1 _ rfl) eX10_fast_1 MX10_179 [] rfl rfl rfl rfl rfl rfl rfl rfl rfl (fun zb1 => ?_)
  refine r_if_eq C eX10_fast_4 (fun c2 => ?_) (fun c2 => ?_)
  · rw [if_pos c2] at hf
    refine r_ldc C (v := (-1000000001)) eX10_fast_18 q649 ?_
    obtain rfl := Option.some.inj (show some (((-1000000001), (gLi_fast (gSh_lines (gAL_ship v0))), (gLi_place (gSh_lines (gAL_ship v0))), (gLi_post (gSh_lines (gAL_ship v0))), (gLi_length (gSh_lines (gAL_ship v0)))) : Int32 × (Nat → Int32) × (Nat → Int32) × (Nat → Int32) × (Nat → Int32)) = some _ from hf)
    exact hret _ _ _ eX10_fast_20
  · rw [if_neg c2] at hf
    refine r_aload_n C eX10_fast_7 0 rfl rfl ?_
    refine r_get (v := .ref (a0 (o0 + 18))) C eX10_fast_8 FX10_26 0 rfl rfl ?_
    refine r_iload_n C eX10_fast_11 3 rfl rfl ?_
    refine r_V_z (ws' := w_AL (z_g x) a0 o0 v0) C (c_Qu_hasPost (z_l x) (z_g x) a0 (o0 + 18) (gAL_quay v0) p3 _ rfl) eX10_fast_12 MX10_144 ⟨0, 4, _, _, rfl, rfl, rfl⟩ [18, 19, 20] rfl rfl rfl rfl rfl rfl rfl rfl rfl (fun zb3 => ?_)
    refine r_if_ne C eX10_fast_15 (fun c4 => ?_) (fun c4 => ?_)
    · rw [if_neg c4] at hf
      refine r_iload_n C eX10_fast_21 2 rfl rfl ?_
      refine r_S_z (ws' := w_AL (z_g x) a0 o0 v0) C (c_Sh_isPlace (z_l x) (z_g x)  p2 _ rfl) eX10_fast_22 MX10_184 [] rfl rfl rfl rfl rfl rfl rfl rfl rfl (fun zb5 => ?_)
      refine r_if_eq C eX10_fast_25 (fun c6 => ?_) (fun c6 => ?_)
      · rw [if_pos c6] at hf
        refine r_ldc C (v := (-1000000002)) eX10_fast_42 q424 ?_
        obtain rfl := Option.some.inj (show some (((-1000000002), (gLi_fast (gSh_lines (gAL_ship v0))), (gLi_place (gSh_lines (gAL_ship v0))), (gLi_post (gSh_lines (gAL_ship v0))), (gLi_length (gSh_lines (gAL_ship v0)))) : Int32 × (Nat → Int32) × (Nat → Int32) × (Nat → Int32) × (Nat → Int32)) = some _ from hf)
        exact hret _ _ _ eX10_fast_44
      · rw [if_neg c6] at hf
        refine r_iload C eX10_fast_28 4 rfl ?_
        refine r_iconst C (v := (-1)) eX10_fast_30 (by decide) ?_
        refine r_icmp_lt C eX10_fast_31 (fun c7 => ?_) (fun c7 => ?_)
        · rw [if_pos c7] at hf
          refine r_ldc C (v := (-1000000002)) eX10_fast_42 q424 ?_
          obtain rfl := Option.some.inj (show some (((-1000000002), (gLi_fast (gSh_lines (gAL_ship v0))), (gLi_place (gSh_lines (gAL_ship v0))), (gLi_post (gSh_lines (gAL_ship v0))), (gLi_length (gSh_lines (gAL_ship v0)))) : Int32 × (Nat → Int32) × (Nat → Int32) × (Nat → Int32) × (Nat → Int32)) = some _ from hf)
          exact hret _ _ _ eX10_fast_44
        · rw [if_neg c7] at hf
          refine r_iload C eX10_fast_34 4 rfl ?_
          refine r_sipush C (v := 9999) eX10_fast_36 (by decide) ?_
          refine r_icmp_le C eX10_fast_39 (fun c8 => ?_) (fun c8 => ?_)
          · rw [if_pos c8] at hf
            refine r_aload_n C eX10_fast_45 0 rfl rfl ?_
            refine r_get (v := .ref (a0 (o0 + 27))) C eX10_fast_46 FX10_47 0 rfl rfl ?_
            refine r_get (v := .ref (a0 ((o0 + 27) + 1))) C eX10_fast_49 FX10_187 27 rfl rfl ?_
            refine r_iload_n C eX10_fast_52 1 rfl rfl ?_
            obtain ⟨r9, hr9, hf⟩ := zbind hf
            refine r_V_z (ws' := w_AL (z_g x) a0 o0 v0) C (c_Li_isFast (z_l x) (z_g x) a0 ((o0 + 27) + 1) (gSh_lines (gAL_ship v0)) p1 r9 hr9) eX10_fast_53 MX10_191 ⟨0, 1, _, _, rfl, rfl, rfl⟩ [28, 29, 30, 31, 32] rfl rfl rfl rfl rfl rfl rfl rfl rfl (fun zb10 => ?_)
            refine r_if_eq C eX10_fast_56 (fun c11 => ?_) (fun c11 => ?_)
            · rw [if_pos c11] at hf
              refine r_iload C eX10_fast_62 4 rfl ?_
              refine r_iconst C (v := (-1)) eX10_fast_64 (by decide) ?_
              obtain ⟨w12, hw12, hf⟩ := zbind hf
              have J13 : vV x 6 0 0 (w_AL (z_g x) a0 o0 v0) 86 [(0, .ref (a0 o0)), (1, .int p1), (2, .int p2), (3, .int p3)] [.int w12] := by
                refine r_istore C [(5, .int w12), (0, .ref (a0 o0)), (1, .int p1), (2, .int p2), (3, .int p3)] eX10_fast_86 (by decide) rfl ?_
                refine r_aload_n C eX10_fast_88 1 rfl rfl ?_
                refine r_get (v := .ref (a0 (o0 + 27))) C eX10_fast_89 FX10_47 0 rfl rfl ?_
                refine r_get (v := .ref (a0 ((o0 + 27) + 1))) C eX10_fast_92 FX10_187 27 rfl rfl ?_
                refine r_iload_n C eX10_fast_95 2 rfl rfl ?_
                refine r_iload_n C eX10_fast_96 3 rfl rfl ?_
                refine r_iload_n C eX10_fast_97 4 rfl rfl ?_
                refine r_iload C eX10_fast_98 0 rfl ?_
                obtain ⟨r16, hr16, hf⟩ := zbind hf
                refine r_V_v (ws' := w_AL (z_g x) a0 o0 (sAL_ship v0 (sSh_lines (gAL_ship v0) (sLi_length (sLi_post (sLi_place (sLi_fast (gSh_lines (gAL_ship v0)) (r16.1)) (r16.2.1)) (r16.2.2.1)) (r16.2.2.2))))) C (c_Li_makeFast (z_l x) (z_g x) a0 ((o0 + 27) + 1) (gSh_lines (gAL_ship v0)) p1 p2 p3 w12 r16 hr16) eX10_fast_100 MX10_199 ⟨0, 1, _, _, rfl, rfl, rfl⟩ [28, 29, 30, 31, 32] rfl rfl rfl rfl rfl rfl rfl rfl rfl ?_
                refine r_iload C eX10_fast_103 0 rfl ?_
                obtain rfl := Option.some.inj (show some ((w12, (r16.1), (r16.2.1), (r16.2.2.1), (r16.2.2.2)) : Int32 × (Nat → Int32) × (Nat → Int32) × (Nat → Int32) × (Nat → Int32)) = some _ from hf)
                exact hret _ _ _ eX10_fast_105
              refine r_icmp_ne C eX10_fast_65 (fun c14 => ?_) (fun c14 => ?_)
              · rw [if_neg c14] at hw12
                refine r_iload C eX10_fast_84 4 rfl ?_
                obtain rfl := Option.some.inj hw12
                refine r_sub (lv' := [(0, .ref (a0 o0)), (1, .int p1), (2, .int p2), (3, .int p3)]) [0, 1, 2, 3] rfl ?_
                exact J13
              · rw [if_pos c14] at hw12
                refine r_aload_n C eX10_fast_68 0 rfl rfl ?_
                refine r_get (v := .ref (a0 (o0 + 27))) C eX10_fast_69 FX10_47 0 rfl rfl ?_
                refine r_aload_n C eX10_fast_72 0 rfl rfl ?_
                refine r_get (v := .ref (a0 (o0 + 18))) C eX10_fast_73 FX10_26 0 rfl rfl ?_
                refine r_iload_n C eX10_fast_76 2 rfl rfl ?_
                refine r_iload_n C eX10_fast_77 3 rfl rfl ?_
                obtain ⟨r15, hr15, hw12⟩ := zbind hw12
                refine r_V_i (ws' := w_AL (z_g x) a0 o0 v0) C (c_Sh_distance (z_l x) (z_g x) a0 (o0 + 27) (gAL_ship v0) a0 (o0 + 18) (gAL_quay v0) p2 p3 r15 hr15) eX10_fast_78 MX10_195 ⟨0, 7, _, _, rfl, rfl, rfl⟩ [27, 28, 29, 30, 31, 32, 18, 19, 20] rfl rfl rfl rfl rfl rfl rfl rfl rfl ?_
                refine r_goto C eX10_fast_81 ?_
                obtain rfl := Option.some.inj hw12
                refine r_sub (lv' := [(0, .ref (a0 o0)), (1, .int p1), (2, .int p2), (3, .int p3)]) [0, 1, 2, 3] rfl ?_
                exact J13
            · rw [if_neg c11] at hf
              refine r_ldc C (v := (-1000000003)) eX10_fast_59 q801 ?_
              obtain rfl := Option.some.inj (show some (((-1000000003), (gLi_fast (gSh_lines (gAL_ship v0))), (gLi_place (gSh_lines (gAL_ship v0))), (gLi_post (gSh_lines (gAL_ship v0))), (gLi_length (gSh_lines (gAL_ship v0)))) : Int32 × (Nat → Int32) × (Nat → Int32) × (Nat → Int32) × (Nat → Int32)) = some _ from hf)
              exact hret _ _ _ eX10_fast_61
          · rw [if_neg c8] at hf
            refine r_ldc C (v := (-1000000002)) eX10_fast_42 q424 ?_
            obtain rfl := Option.some.inj (show some (((-1000000002), (gLi_fast (gSh_lines (gAL_ship v0))), (gLi_place (gSh_lines (gAL_ship v0))), (gLi_post (gSh_lines (gAL_ship v0))), (gLi_length (gSh_lines (gAL_ship v0)))) : Int32 × (Nat → Int32) × (Nat → Int32) × (Nat → Int32) × (Nat → Int32)) = some _ from hf)
            exact hret _ _ _ eX10_fast_44
    · rw [if_pos c4] at hf
      refine r_ldc C (v := (-1000000001)) eX10_fast_18 q649 ?_
      obtain rfl := Option.some.inj (show some (((-1000000001), (gLi_fast (gSh_lines (gAL_ship v0))), (gLi_place (gSh_lines (gAL_ship v0))), (gLi_post (gSh_lines (gAL_ship v0))), (gLi_length (gSh_lines (gAL_ship v0)))) : Int32 × (Nat → Int32) × (Nat → Int32) × (Nat → Int32) × (Nat → Int32)) = some _ from hf)
      exact hret _ _ _ eX10_fast_20
theorem eX10_fault_0 : zd 1 cX10_fault 0 1 (.aload_n 0) := ⟨by decide +kernel, rfl⟩
theorem eX10_fault_1 : zd 3 cX10_fault 1 4 (.getfield 87) := ⟨by decide +kernel, rfl⟩
theorem eX10_fault_4 : zd 1 cX10_fault 4 5 (.ireturn) := ⟨by decide +kernel, rfl⟩
theorem FX10_87 : zlF RX10 87 10 14 := ⟨(RX10, TX10, 15), rfl, by decide, q388, zin10⟩
noncomputable def f_AL_fault (v0 : tAL)  : Int32 := ((gAL_ints v0) 14)
abbrev rm_AL_fault : Room := { frames := 0, cells := 0, slots := 0, locals := 0 }
set_option maxHeartbeats 4000000 in
set_option maxRecDepth 100000 in
theorem c_AL_fault (l : Launch) (g : zGl) (a0 : Nat → Nat) (o0 : Nat) (v0 : tAL)  (out : Int32) (hf : f_AL_fault v0 = out) : zMi l yX10_fault cX10_fault 1 rm_AL_fault g [.ref (a0 o0)] (w_AL g a0 o0 v0) out (w_AL g a0 o0 v0) := by
  refine zMi_of (lv := [(0, .ref (a0 o0))]) (by decide) (Nat.le_of_ble_eq_true rfl) rfl (fun x hl hg C hret => ?_)
  subst hl; subst hg
  rw [f_AL_fault] at hf
  refine r_aload_n C eX10_fault_0 0 rfl rfl ?_
  refine r_get (v := .int ((gAL_ints v0) 14)) C eX10_fault_1 FX10_87 0 rfl rfl ?_
  subst hf
  exact hret _ _ _ eX10_fault_4
theorem eX10_feed_0 : zd 1 cX10_feed 0 1 (.iload_n 1) := ⟨by decide +kernel, rfl⟩
theorem eX10_feed_1 : zd 1 cX10_feed 1 2 (.iconst 1) := ⟨by decide +kernel, rfl⟩
theorem eX10_feed_2 : zdi cX10_feed 2 5 11 (.if_icmp .lt) := ⟨9, by decide +kernel, rfl, by decide⟩
theorem eX10_feed_5 : zd 1 cX10_feed 5 6 (.iload_n 1) := ⟨by decide +kernel, rfl⟩
theorem eX10_feed_6 : zd 2 cX10_feed 6 8 (.bipush 8) := ⟨by decide +kernel, rfl⟩
theorem eX10_feed_8 : zdi cX10_feed 8 11 14 (.if_icmp .le) := ⟨6, by decide +kernel, rfl, by decide⟩
theorem eX10_feed_11 : zd 2 cX10_feed 11 13 (.ldc 97) := ⟨by decide +kernel, rfl⟩
theorem eX10_feed_13 : zd 1 cX10_feed 13 14 (.ireturn) := ⟨by decide +kernel, rfl⟩
theorem eX10_feed_14 : zd 1 cX10_feed 14 15 (.aload_n 0) := ⟨by decide +kernel, rfl⟩
theorem eX10_feed_15 : zd 3 cX10_feed 15 18 (.getfield 10) := ⟨by decide +kernel, rfl⟩
theorem eX10_feed_18 : zd 3 cX10_feed 18 21 (.getfield 98) := ⟨by decide +kernel, rfl⟩
theorem eX10_feed_21 : zd 1 cX10_feed 21 22 (.iload_n 1) := ⟨by decide +kernel, rfl⟩
theorem eX10_feed_22 : zd 1 cX10_feed 22 23 (.iadd) := ⟨by decide +kernel, rfl⟩
theorem eX10_feed_23 : zd 3 cX10_feed 23 26 (.sipush 300) := ⟨by decide +kernel, rfl⟩
theorem eX10_feed_26 : zdi cX10_feed 26 29 32 (.if_icmp .le) := ⟨6, by decide +kernel, rfl, by decide⟩
theorem eX10_feed_29 : zd 2 cX10_feed 29 31 (.ldc 101) := ⟨by decide +kernel, rfl⟩
theorem eX10_feed_31 : zd 1 cX10_feed 31 32 (.ireturn) := ⟨by decide +kernel, rfl⟩
theorem eX10_feed_32 : zd 1 cX10_feed 32 33 (.aload_n 0) := ⟨by decide +kernel, rfl⟩
theorem eX10_feed_33 : zd 3 cX10_feed 33 36 (.getfield 10) := ⟨by decide +kernel, rfl⟩
theorem eX10_feed_36 : zd 1 cX10_feed 36 37 (.iload_n 1) := ⟨by decide +kernel, rfl⟩
theorem eX10_feed_37 : zd 1 cX10_feed 37 38 (.lload_n 2) := ⟨by decide +kernel, rfl⟩
theorem eX10_feed_38 : zd 3 cX10_feed 38 41 (.invokevirtual 102) := ⟨by decide +kernel, rfl⟩
theorem eX10_feed_41 : zd 1 cX10_feed 41 42 (.aload_n 0) := ⟨by decide +kernel, rfl⟩
theorem eX10_feed_42 : zd 3 cX10_feed 42 45 (.getfield 10) := ⟨by decide +kernel, rfl⟩
theorem eX10_feed_45 : zd 3 cX10_feed 45 48 (.getfield 98) := ⟨by decide +kernel, rfl⟩
theorem eX10_feed_48 : zd 1 cX10_feed 48 49 (.ireturn) := ⟨by decide +kernel, rfl⟩
theorem FX10_10 : zlF RX10 10 10 0 := ⟨(RX10, TX10, 15), rfl, by decide, q374, zin10⟩
theorem FX10_98 : zlF RX10 98 8 1 := ⟨(RX8, TX8, 2), rfl, by decide, q35, zin8⟩
theorem MX10_102 : zlV RX10 102 yX8_append cX8_append 5 (none) 2 := ⟨q426, q427, q428, q2, q429, by decide, by decide, by decide +kernel⟩
noncomputable def f_AL_feed (v0 : tAL) (p1 : Int32) (p2 : Int64) : Option (Int32 × (Nat → Int32) × (Nat → Int32)) := (if p1 < 1 then (some ((-1000000002), (gTe_ints (gAL_text v0)), (gTe_bytes (gAL_text v0)))) else (if p1 ≤ 8 then (if (((gTe_ints (gAL_text v0)) 1) + p1) ≤ 300 then (Option.bind (f_Te_append (gAL_text v0) p1 p2) (fun (r4 : (Nat → Int32) × (Nat → Int32)) => (some (((r4.1) 1), (r4.1), (r4.2))))) else (some ((-1000000004), (gTe_ints (gAL_text v0)), (gTe_bytes (gAL_text v0))))) else (some ((-1000000002), (gTe_ints (gAL_text v0)), (gTe_bytes (gAL_text v0))))))
abbrev rm_AL_feed : Room := { frames := 1, cells := 0, slots := 0, locals := 24 }
set_option maxHeartbeats 4000000 in
set_option maxRecDepth 100000 in
theorem c_AL_feed (l : Launch) (g : zGl) (a0 : Nat → Nat) (o0 : Nat) (v0 : tAL) (p1 : Int32) (p2 : Int64) (out : Int32 × (Nat → Int32) × (Nat → Int32)) (hf : f_AL_feed v0 p1 p2 = some out) : zMi l yX10_feed cX10_feed 4 rm_AL_feed g [.ref (a0 o0), .int p1, .long p2] (w_AL g a0 o0 v0) (out.1) (w_AL g a0 o0 (sAL_text v0 (sTe_bytes (sTe_ints (gAL_text v0) (out.2.1)) (out.2.2)))) := by
  refine zMi_of (lv := [(0, .ref (a0 o0)), (1, .int p1), (2, .long p2)]) (by decide) (Nat.le_of_ble_eq_true rfl) rfl (fun x hl hg C hret => ?_)
  subst hl; subst hg
  rw [f_AL_feed] at hf
  refine r_iload_n C eX10_feed_0 1 rfl rfl ?_
  refine r_iconst C (v := 1) eX10_feed_1 (by decide) ?_
  refine r_icmp_lt C eX10_feed_2 (fun c1 => ?_) (fun c1 => ?_)
  · rw [if_pos c1] at hf
    refine r_ldc C (v := (-1000000002)) eX10_feed_11 q424 ?_
    obtain rfl := Option.some.inj (show some (((-1000000002), (gTe_ints (gAL_text v0)), (gTe_bytes (gAL_text v0))) : Int32 × (Nat → Int32) × (Nat → Int32)) = some _ from hf)
    exact hret _ _ _ eX10_feed_13
  · rw [if_neg c1] at hf
    refine r_iload_n C eX10_feed_5 1 rfl rfl ?_
    refine r_bipush C (v := 8) eX10_feed_6 (by decide) ?_
    refine r_icmp_le C eX10_feed_8 (fun c2 => ?_) (fun c2 => ?_)
    · rw [if_pos c2] at hf
      refine r_aload_n C eX10_feed_14 0 rfl rfl ?_
      refine r_get (v := .ref (a0 (o0 + 4))) C eX10_feed_15 FX10_10 0 rfl rfl ?_
      refine r_get (v := .int ((gTe_ints (gAL_text v0)) 1)) C eX10_feed_18 FX10_98 4 rfl rfl ?_
      refine r_iload_n C eX10_feed_21 1 rfl rfl ?_
      refine r_iadd C eX10_feed_22 ?_
      refine r_sipush C (v := 300) eX10_feed_23 (by decide) ?_
      refine r_icmp_le C eX10_feed_26 (fun c3 => ?_) (fun c3 => ?_)
      · rw [if_pos c3] at hf
        refine r_aload_n C eX10_feed_32 0 rfl rfl ?_
        refine r_get (v := .ref (a0 (o0 + 4))) C eX10_feed_33 FX10_10 0 rfl rfl ?_
        refine r_iload_n C eX10_feed_36 1 rfl rfl ?_
        refine r_lload_n C eX10_feed_37 2 rfl rfl ?_
        obtain ⟨r4, hr4, hf⟩ := zbind hf
        refine r_V_v (ws' := w_AL (z_g x) a0 o0 (sAL_text v0 (sTe_bytes (sTe_ints (gAL_text v0) (r4.1)) (r4.2)))) C (c_Te_append (z_l x) (z_g x) a0 (o0 + 4) (gAL_text v0) p1 p2 r4 hr4) eX10_feed_38 MX10_102 ⟨0, 8, _, _, rfl, rfl, rfl⟩ [4, 5] rfl rfl rfl rfl rfl rfl rfl rfl rfl ?_
        refine r_aload_n C eX10_feed_41 0 rfl rfl ?_
        refine r_get (v := .ref (a0 (o0 + 4))) C eX10_feed_42 FX10_10 0 rfl rfl ?_
        refine r_get (v := .int ((r4.1) 1)) C eX10_feed_45 FX10_98 4 rfl rfl ?_
        obtain rfl := Option.some.inj (show some ((((r4.1) 1), (r4.1), (r4.2)) : Int32 × (Nat → Int32) × (Nat → Int32)) = some _ from hf)
        exact hret _ _ _ eX10_feed_48
      · rw [if_neg c3] at hf
        refine r_ldc C (v := (-1000000004)) eX10_feed_29 q425 ?_
        obtain rfl := Option.some.inj (show some (((-1000000004), (gTe_ints (gAL_text v0)), (gTe_bytes (gAL_text v0))) : Int32 × (Nat → Int32) × (Nat → Int32)) = some _ from hf)
        exact hret _ _ _ eX10_feed_31
    · rw [if_neg c2] at hf
      refine r_ldc C (v := (-1000000002)) eX10_feed_11 q424 ?_
      obtain rfl := Option.some.inj (show some (((-1000000002), (gTe_ints (gAL_text v0)), (gTe_bytes (gAL_text v0))) : Int32 × (Nat → Int32) × (Nat → Int32)) = some _ from hf)
      exact hret _ _ _ eX10_feed_13
theorem eX10_follow_0 : zd 1 cX10_follow 0 1 (.iload_n 1) := ⟨by decide +kernel, rfl⟩
theorem eX10_follow_1 : zd 1 cX10_follow 1 2 (.iconst 1) := ⟨by decide +kernel, rfl⟩
theorem eX10_follow_2 : zdi cX10_follow 2 5 12 (.if_icmp .lt) := ⟨10, by decide +kernel, rfl, by decide⟩
theorem eX10_follow_5 : zd 1 cX10_follow 5 6 (.iload_n 1) := ⟨by decide +kernel, rfl⟩
theorem eX10_follow_6 : zd 3 cX10_follow 6 9 (.sipush 600) := ⟨by decide +kernel, rfl⟩
theorem eX10_follow_9 : zdi cX10_follow 9 12 15 (.if_icmp .le) := ⟨6, by decide +kernel, rfl, by decide⟩
theorem eX10_follow_12 : zd 2 cX10_follow 12 14 (.ldc 97) := ⟨by decide +kernel, rfl⟩
theorem eX10_follow_14 : zd 1 cX10_follow 14 15 (.ireturn) := ⟨by decide +kernel, rfl⟩
theorem eX10_follow_15 : zd 1 cX10_follow 15 16 (.aload_n 0) := ⟨by decide +kernel, rfl⟩
theorem eX10_follow_16 : zd 3 cX10_follow 16 19 (.getfield 47) := ⟨by decide +kernel, rfl⟩
theorem eX10_follow_19 : zd 1 cX10_follow 19 20 (.aload_n 0) := ⟨by decide +kernel, rfl⟩
theorem eX10_follow_20 : zd 3 cX10_follow 20 23 (.getfield 26) := ⟨by decide +kernel, rfl⟩
theorem eX10_follow_23 : zd 1 cX10_follow 23 24 (.aload_n 0) := ⟨by decide +kernel, rfl⟩
theorem eX10_follow_24 : zd 3 cX10_follow 24 27 (.getfield 33) := ⟨by decide +kernel, rfl⟩
theorem eX10_follow_27 : zd 1 cX10_follow 27 28 (.iload_n 1) := ⟨by decide +kernel, rfl⟩
theorem eX10_follow_28 : zd 3 cX10_follow 28 31 (.invokevirtual 175) := ⟨by decide +kernel, rfl⟩
theorem eX10_follow_31 : zd 1 cX10_follow 31 32 (.ireturn) := ⟨by decide +kernel, rfl⟩
theorem FX10_33 : zlF RX10 33 10 3 := ⟨(RX10, TX10, 15), rfl, by decide, q377, zin10⟩
theorem MX10_175 : zlV RX10 175 yX7_passByPlan cX7_passByPlan 7 ((Option.some FieldType.int)) 3 := ⟨q778, q779, q780, q7, q781, by decide, by decide, by decide +kernel⟩
noncomputable def f_AL_follow (v0 : tAL) (p1 : Int32) : Option (Int32 × (Nat → Int32) × Int64 × (Nat → Int32)) := (if p1 < 1 then (some ((-1000000002), (gSh_ints (gAL_ship v0)), (gSh_harm (gAL_ship v0)), (gLi_fast (gSh_lines (gAL_ship v0))))) else (if p1 ≤ 600 then (Option.bind (f_Sh_passByPlan (gAL_ship v0) (gAL_quay v0) (gAL_plan v0) p1) (fun (r3 : Int32 × (Nat → Int32) × Int64 × (Nat → Int32)) => (some ((r3.1), (r3.2.1), (r3.2.2.1), (r3.2.2.2))))) else (some ((-1000000002), (gSh_ints (gAL_ship v0)), (gSh_harm (gAL_ship v0)), (gLi_fast (gSh_lines (gAL_ship v0)))))))
abbrev rm_AL_follow : Room := { frames := 5, cells := 0, slots := 0, locals := 128 }
set_option maxHeartbeats 4000000 in
set_option maxRecDepth 100000 in
theorem c_AL_follow (l : Launch) (g : zGl) (a0 : Nat → Nat) (o0 : Nat) (v0 : tAL) (p1 : Int32) (out : Int32 × (Nat → Int32) × Int64 × (Nat → Int32)) (hf : f_AL_follow v0 p1 = some out) : zMi l yX10_follow cX10_follow 2 rm_AL_follow g [.ref (a0 o0), .int p1] (w_AL g a0 o0 v0) (out.1) (w_AL g a0 o0 (sAL_ship v0 (sSh_lines (sSh_harm (sSh_ints (gAL_ship v0) (out.2.1)) (out.2.2.1)) (sLi_fast (gSh_lines (gAL_ship v0)) (out.2.2.2))))) := by
  refine zMi_of (lv := [(0, .ref (a0 o0)), (1, .int p1)]) (by decide) (Nat.le_of_ble_eq_true rfl) rfl (fun x hl hg C hret => ?_)
  subst hl; subst hg
  rw [f_AL_follow] at hf
  refine r_iload_n C eX10_follow_0 1 rfl rfl ?_
  refine r_iconst C (v := 1) eX10_follow_1 (by decide) ?_
  refine r_icmp_lt C eX10_follow_2 (fun c1 => ?_) (fun c1 => ?_)
  · rw [if_pos c1] at hf
    refine r_ldc C (v := (-1000000002)) eX10_follow_12 q424 ?_
    obtain rfl := Option.some.inj (show some (((-1000000002), (gSh_ints (gAL_ship v0)), (gSh_harm (gAL_ship v0)), (gLi_fast (gSh_lines (gAL_ship v0)))) : Int32 × (Nat → Int32) × Int64 × (Nat → Int32)) = some _ from hf)
    exact hret _ _ _ eX10_follow_14
  · rw [if_neg c1] at hf
    refine r_iload_n C eX10_follow_5 1 rfl rfl ?_
    refine r_sipush C (v := 600) eX10_follow_6 (by decide) ?_
    refine r_icmp_le C eX10_follow_9 (fun c2 => ?_) (fun c2 => ?_)
    · rw [if_pos c2] at hf
      refine r_aload_n C eX10_follow_15 0 rfl rfl ?_
      refine r_get (v := .ref (a0 (o0 + 27))) C eX10_follow_16 FX10_47 0 rfl rfl ?_
      refine r_aload_n C eX10_follow_19 0 rfl rfl ?_
      refine r_get (v := .ref (a0 (o0 + 18))) C eX10_follow_20 FX10_26 0 rfl rfl ?_
      refine r_aload_n C eX10_follow_23 0 rfl rfl ?_
      refine r_get (v := .ref (a0 (o0 + 21))) C eX10_follow_24 FX10_33 0 rfl rfl ?_
      refine r_iload_n C eX10_follow_27 1 rfl rfl ?_
      obtain ⟨r3, hr3, hf⟩ := zbind hf
      refine r_V_i (ws' := w_AL (z_g x) a0 o0 (sAL_ship v0 (sSh_lines (sSh_harm (sSh_ints (gAL_ship v0) (r3.2.1)) (r3.2.2.1)) (sLi_fast (gSh_lines (gAL_ship v0)) (r3.2.2.2))))) C (c_Sh_passByPlan (z_l x) (z_g x) a0 (o0 + 27) (gAL_ship v0) a0 (o0 + 18) (gAL_quay v0) a0 (o0 + 21) (gAL_plan v0) p1 r3 hr3) eX10_follow_28 MX10_175 ⟨0, 7, _, _, rfl, rfl, rfl⟩ [27, 28, 29, 30, 31, 32, 18, 19, 20, 21, 22, 23, 24] rfl rfl rfl rfl rfl rfl rfl rfl rfl ?_
      obtain rfl := Option.some.inj (show some (((r3.1), (r3.2.1), (r3.2.2.1), (r3.2.2.2)) : Int32 × (Nat → Int32) × Int64 × (Nat → Int32)) = some _ from hf)
      exact hret _ _ _ eX10_follow_31
    · rw [if_neg c2] at hf
      refine r_ldc C (v := (-1000000002)) eX10_follow_12 q424 ?_
      obtain rfl := Option.some.inj (show some (((-1000000002), (gSh_ints (gAL_ship v0)), (gSh_harm (gAL_ship v0)), (gLi_fast (gSh_lines (gAL_ship v0)))) : Int32 × (Nat → Int32) × Int64 × (Nat → Int32)) = some _ from hf)
      exact hret _ _ _ eX10_follow_14
theorem eX10_forgetImages_0 : zd 1 cX10_forgetImages 0 1 (.iconst 0) := ⟨by decide +kernel, rfl⟩
theorem eX10_forgetImages_1 : zd 1 cX10_forgetImages 1 2 (.istore_n 1) := ⟨by decide +kernel, rfl⟩
theorem eX10_forgetImages_2 : zd 1 cX10_forgetImages 2 3 (.iload_n 1) := ⟨by decide +kernel, rfl⟩
theorem eX10_forgetImages_3 : zd 1 cX10_forgetImages 3 4 (.iconst 2) := ⟨by decide +kernel, rfl⟩
theorem eX10_forgetImages_4 : zdi cX10_forgetImages 4 7 20 (.if_icmp .ge) := ⟨16, by decide +kernel, rfl, by decide⟩
theorem eX10_forgetImages_7 : zd 1 cX10_forgetImages 7 8 (.aload_n 0) := ⟨by decide +kernel, rfl⟩
theorem eX10_forgetImages_8 : zd 3 cX10_forgetImages 8 11 (.getfield 55) := ⟨by decide +kernel, rfl⟩
theorem eX10_forgetImages_11 : zd 1 cX10_forgetImages 11 12 (.iload_n 1) := ⟨by decide +kernel, rfl⟩
theorem eX10_forgetImages_12 : zd 1 cX10_forgetImages 12 13 (.iconst 0) := ⟨by decide +kernel, rfl⟩
theorem eX10_forgetImages_13 : zd 1 cX10_forgetImages 13 14 (.bastore) := ⟨by decide +kernel, rfl⟩
theorem eX10_forgetImages_14 : zd 3 cX10_forgetImages 14 17 (.iinc 1 1) := ⟨by decide +kernel, rfl⟩
theorem eX10_forgetImages_17 : zdi cX10_forgetImages 17 20 2 (.goto) := ⟨(-15), by decide +kernel, rfl, by decide⟩
theorem eX10_forgetImages_20 : zd 1 cX10_forgetImages 20 21 (.return_) := ⟨by decide +kernel, rfl⟩
theorem FX10_55 : zlF RX10 55 10 7 := ⟨(RX10, TX10, 15), rfl, by decide, q381, zin10⟩
noncomputable def fB_AL_forgetImages_2  (ih : (Int32 × (Nat → Int32)) → Option (Int32 × (Nat → Int32))) (s1 : Int32 × (Nat → Int32)) : Option (Int32 × (Nat → Int32)) := (if 2 ≤ (s1.1) then (some ((s1.1), (s1.2))) else (if inb (s1.1) 2 = true then (ih (((s1.1) + 1), (upd (s1.2) (ix (s1.1)) (vp_nar .boolean 0)))) else none))
noncomputable def f_AL_forgetImages (v0 : tAL)  : Option ((Nat → Int32)) := (Option.bind (lp (fB_AL_forgetImages_2) LF (0, (gAL_kept v0))) (fun (q2 : Int32 × (Nat → Int32)) => (some (q2.2))))
abbrev rm_AL_forgetImages : Room := { frames := 0, cells := 0, slots := 0, locals := 0 }
set_option maxHeartbeats 4000000 in
set_option maxRecDepth 100000 in
theorem c_AL_forgetImages (l : Launch) (g : zGl) (a0 : Nat → Nat) (o0 : Nat) (v0 : tAL)  (out : (Nat → Int32)) (hf : f_AL_forgetImages v0 = some out) : zMv l yX10_forgetImages cX10_forgetImages 2 rm_AL_forgetImages g [.ref (a0 o0)] (w_AL g a0 o0 v0)  (w_AL g a0 o0 (sAL_kept v0 out)) := by
  refine zMv_of (lv := [(0, .ref (a0 o0))]) (by decide) (Nat.le_of_ble_eq_true rfl) rfl (fun x hl hg C hret => ?_)
  subst hl; subst hg
  rw [f_AL_forgetImages] at hf
  refine r_iconst C (v := 0) eX10_forgetImages_0 (by decide) ?_
  refine r_istore_n C [(1, .int 0), (0, .ref (a0 o0))] eX10_forgetImages_1 rfl (by decide) rfl ?_
  obtain ⟨q2, h3, hf⟩ := zbind hf
  have J4 : vV x 2 0 0 (w_AL (z_g x) a0 o0 (sAL_kept v0 (q2.2))) 20 [] [] := by
    obtain rfl := Option.some.inj (show some ((q2.2) : (Nat → Int32)) = some _ from hf)
    exact hret _ _ _ eX10_forgetImages_20
  have L5 : ∀ (nL5 : Nat) (s1 : Int32 × (Nat → Int32)), lp (fB_AL_forgetImages_2) nL5 s1 = some q2 → vV x 2 0 0 (w_AL (z_g x) a0 o0 (sAL_kept v0 (s1.2))) 2 [(0, .ref (a0 o0)), (1, .int (s1.1))] [] := by
    intro nL5
    induction nL5 with
    | zero => intro s1 hq; cases hq
    | succ nL5 ihL5 =>
      intro s1 hbL5
      rw [lp_succ, fB_AL_forgetImages_2] at hbL5
      refine r_iload_n C eX10_forgetImages_2 1 rfl rfl ?_
      refine r_iconst C (v := 2) eX10_forgetImages_3 (by decide) ?_
      refine r_icmp_ge C eX10_forgetImages_4 (fun c6 => ?_) (fun c6 => ?_)
      · rw [if_pos c6] at hbL5
        obtain rfl := Option.some.inj hbL5
        refine r_sub (lv' := []) [] rfl ?_
        exact J4
      · rw [if_neg c6] at hbL5
        refine r_aload_n C eX10_forgetImages_7 0 rfl rfl ?_
        refine r_get (v := .ref (a0 (o0 + 2))) C eX10_forgetImages_8 FX10_55 0 rfl rfl ?_
        refine r_iload_n C eX10_forgetImages_11 1 rfl rfl ?_
        refine r_iconst C (v := 0) eX10_forgetImages_12 (by decide) ?_
        obtain ⟨hb7, hbL5⟩ := zchk hbL5
        refine r_zast (ws' := w_AL (z_g x) a0 o0 (sAL_kept v0 (upd (s1.2) (ix (s1.1)) (vp_nar .boolean 0)))) C eX10_forgetImages_13 2 rfl (inb_in hb7) rfl ?_
        refine r_iinc C (v := ((s1.1) + 1)) [(1, .int ((s1.1) + 1)), (0, .ref (a0 o0))] eX10_forgetImages_14 1 rfl rfl (by decide) rfl ?_
        refine r_goto C eX10_forgetImages_17 ?_
        refine r_sub (lv' := [(0, .ref (a0 o0)), (1, .int ((s1.1) + 1))]) [1, 0] rfl ?_
        exact ihL5 (((s1.1) + 1), (upd (s1.2) (ix (s1.1)) (vp_nar .boolean 0))) hbL5
  refine r_sub (lv' := [(0, .ref (a0 o0)), (1, .int 0)]) [1, 0] rfl ?_
  exact L5 LF (0, (gAL_kept v0)) h3
theorem eX10_isSearchLength_0 : zd 1 cX10_isSearchLength 0 1 (.iload_n 0) := ⟨by decide +kernel, rfl⟩
theorem eX10_isSearchLength_1 : zd 1 cX10_isSearchLength 1 2 (.iconst 1) := ⟨by decide +kernel, rfl⟩
theorem eX10_isSearchLength_2 : zdi cX10_isSearchLength 2 5 16 (.if_icmp .lt) := ⟨14, by decide +kernel, rfl, by decide⟩
theorem eX10_isSearchLength_5 : zd 1 cX10_isSearchLength 5 6 (.iload_n 0) := ⟨by decide +kernel, rfl⟩
theorem eX10_isSearchLength_6 : zd 3 cX10_isSearchLength 6 9 (.sipush 300) := ⟨by decide +kernel, rfl⟩
theorem eX10_isSearchLength_9 : zdi cX10_isSearchLength 9 12 16 (.if_icmp .gt) := ⟨7, by decide +kernel, rfl, by decide⟩
theorem eX10_isSearchLength_12 : zd 1 cX10_isSearchLength 12 13 (.iconst 1) := ⟨by decide +kernel, rfl⟩
theorem eX10_isSearchLength_13 : zdi cX10_isSearchLength 13 16 17 (.goto) := ⟨4, by decide +kernel, rfl, by decide⟩
theorem eX10_isSearchLength_16 : zd 1 cX10_isSearchLength 16 17 (.iconst 0) := ⟨by decide +kernel, rfl⟩
theorem eX10_isSearchLength_17 : zd 1 cX10_isSearchLength 17 18 (.ireturn) := ⟨by decide +kernel, rfl⟩
noncomputable def f_AL_isSearchLength  (p1 : Int32) : Int32 := (if p1 < 1 then 0 else (if 300 < p1 then 0 else 1))
abbrev rm_AL_isSearchLength : Room := { frames := 0, cells := 0, slots := 0, locals := 0 }
set_option maxHeartbeats 4000000 in
set_option maxRecDepth 100000 in
theorem c_AL_isSearchLength (l : Launch) (g : zGl)  (p1 : Int32) (out : Int32) (hf : f_AL_isSearchLength p1 = out) : zMz l yX10_isSearchLength cX10_isSearchLength 1 rm_AL_isSearchLength g [.int p1] ([]) out ([]) := by
  refine zMz_of (lv := [(0, .int p1)]) (by decide) (Nat.le_of_ble_eq_true rfl) rfl (fun x hl hg C hret => ?_)
  subst hl; subst hg
  rw [f_AL_isSearchLength] at hf
  refine r_iload_n C eX10_isSearchLength_0 0 rfl rfl ?_
  refine r_iconst C (v := 1) eX10_isSearchLength_1 (by decide) ?_
  refine r_icmp_lt C eX10_isSearchLength_2 (fun c1 => ?_) (fun c1 => ?_)
  · rw [if_pos c1] at hf
    refine r_iconst C (v := 0) eX10_isSearchLength_16 (by decide) ?_
    subst hf
    exact hret _ _ _ eX10_isSearchLength_17 zB0
  · rw [if_neg c1] at hf
    refine r_iload_n C eX10_isSearchLength_5 0 rfl rfl ?_
    refine r_sipush C (v := 300) eX10_isSearchLength_6 (by decide) ?_
    refine r_icmp_gt C eX10_isSearchLength_9 (fun c2 => ?_) (fun c2 => ?_)
    · rw [if_pos c2] at hf
      refine r_iconst C (v := 0) eX10_isSearchLength_16 (by decide) ?_
      subst hf
      exact hret _ _ _ eX10_isSearchLength_17 zB0
    · rw [if_neg c2] at hf
      refine r_iconst C (v := 1) eX10_isSearchLength_12 (by decide) ?_
      refine r_goto C eX10_isSearchLength_13 ?_
      subst hf
      exact hret _ _ _ eX10_isSearchLength_17 zB1
theorem eX10_gap_0 : zd 1 cX10_gap 0 1 (.iload_n 1) := ⟨by decide +kernel, rfl⟩
theorem eX10_gap_1 : zd 3 cX10_gap 1 4 (.invokestatic 249) := ⟨by decide +kernel, rfl⟩
theorem eX10_gap_4 : zdi cX10_gap 4 7 30 (.ifCond .eq) := ⟨26, by decide +kernel, rfl, by decide⟩
theorem eX10_gap_7 : zd 1 cX10_gap 7 8 (.aload_n 0) := ⟨by decide +kernel, rfl⟩
theorem eX10_gap_8 : zd 3 cX10_gap 8 11 (.getfield 69) := ⟨by decide +kernel, rfl⟩
theorem eX10_gap_11 : zd 1 cX10_gap 11 12 (.aload_n 0) := ⟨by decide +kernel, rfl⟩
theorem eX10_gap_12 : zd 3 cX10_gap 12 15 (.getfield 26) := ⟨by decide +kernel, rfl⟩
theorem eX10_gap_15 : zd 1 cX10_gap 15 16 (.aload_n 0) := ⟨by decide +kernel, rfl⟩
theorem eX10_gap_16 : zd 3 cX10_gap 16 19 (.getfield 47) := ⟨by decide +kernel, rfl⟩
theorem eX10_gap_19 : zd 1 cX10_gap 19 20 (.aload_n 0) := ⟨by decide +kernel, rfl⟩
theorem eX10_gap_20 : zd 3 cX10_gap 20 23 (.getfield 33) := ⟨by decide +kernel, rfl⟩
theorem eX10_gap_23 : zd 1 cX10_gap 23 24 (.iload_n 1) := ⟨by decide +kernel, rfl⟩
theorem eX10_gap_24 : zd 3 cX10_gap 24 27 (.invokevirtual 256) := ⟨by decide +kernel, rfl⟩
theorem eX10_gap_27 : zdi cX10_gap 27 30 32 (.goto) := ⟨5, by decide +kernel, rfl, by decide⟩
theorem eX10_gap_30 : zd 2 cX10_gap 30 32 (.ldc 97) := ⟨by decide +kernel, rfl⟩
theorem eX10_gap_32 : zd 1 cX10_gap 32 33 (.ireturn) := ⟨by decide +kernel, rfl⟩
theorem MX10_249 : zlS RX10 249 yX10_isSearchLength cX10_isSearchLength 1 ((Option.some FieldType.boolean)) 1 := ⟨q915, q916, q1, q917, by decide, by decide, by decide +kernel⟩
theorem MX10_256 : zlV RX10 256 yX6_leastGap cX6_leastGap 7 ((Option.some FieldType.int)) 4 := ⟨q932, q933, q934, q9, q935, by decide, by decide, by decide +kernel⟩
noncomputable def f_AL_gap (v0 : tAL) (p1 : Int32) : Option (Int32 × (Nat → Int32) × Int64 × (Nat → Int32) × (Nat → Int32) × (Nat → Int32) × (Nat → Int32) × (Nat → Int32) × (Nat → Int32) × (Nat → Int32)) := (if (f_AL_isSearchLength p1) = 0 then (some ((-1000000002), (gSh_ints (gSe_probe (gAL_search v0))), (gSh_harm (gSe_probe (gAL_search v0))), (gLi_fast (gSh_lines (gSe_probe (gAL_search v0)))), (gLi_place (gSh_lines (gSe_probe (gAL_search v0)))), (gLi_post (gSh_lines (gSe_probe (gAL_search v0)))), (gLi_length (gSh_lines (gSe_probe (gAL_search v0)))), (gQu_ints (gSe_other (gAL_search v0))), (gQu_places (gSe_other (gAL_search v0))), (gQu_strengths (gSe_other (gAL_search v0))))) else (Option.bind (f_Se_leastGap (gAL_search v0) (gAL_quay v0) (gAL_ship v0) (gAL_plan v0) p1) (fun (r3 : Int32 × (Nat → Int32) × Int64 × (Nat → Int32) × (Nat → Int32) × (Nat → Int32) × (Nat → Int32) × (Nat → Int32) × (Nat → Int32) × (Nat → Int32)) => (some ((r3.1), (r3.2.1), (r3.2.2.1), (r3.2.2.2.1), (r3.2.2.2.2.1), (r3.2.2.2.2.2.1), (r3.2.2.2.2.2.2.1), (r3.2.2.2.2.2.2.2.1), (r3.2.2.2.2.2.2.2.2.1), (r3.2.2.2.2.2.2.2.2.2))))))
abbrev rm_AL_gap : Room := { frames := 6, cells := 0, slots := 0, locals := 155 }
set_option maxHeartbeats 4000000 in
set_option maxRecDepth 100000 in
theorem c_AL_gap (l : Launch) (g : zGl) (a0 : Nat → Nat) (o0 : Nat) (v0 : tAL) (p1 : Int32) (out : Int32 × (Nat → Int32) × Int64 × (Nat → Int32) × (Nat → Int32) × (Nat → Int32) × (Nat → Int32) × (Nat → Int32) × (Nat → Int32) × (Nat → Int32)) (hf : f_AL_gap v0 p1 = some out) : zMi l yX10_gap cX10_gap 2 rm_AL_gap g [.ref (a0 o0), .int p1] (w_AL g a0 o0 v0) (out.1) (w_AL g a0 o0 (sAL_search v0 (sSe_other (sSe_probe (gAL_search v0) (sSh_lines (sSh_harm (sSh_ints (gSe_probe (gAL_search v0)) (out.2.1)) (out.2.2.1)) (sLi_length (sLi_post (sLi_place (sLi_fast (gSh_lines (gSe_probe (gAL_search v0))) (out.2.2.2.1)) (out.2.2.2.2.1)) (out.2.2.2.2.2.1)) (out.2.2.2.2.2.2.1)))) (sQu_strengths (sQu_places (sQu_ints (gSe_other (gAL_search v0)) (out.2.2.2.2.2.2.2.1)) (out.2.2.2.2.2.2.2.2.1)) (out.2.2.2.2.2.2.2.2.2))))) := by
  refine zMi_of (lv := [(0, .ref (a0 o0)), (1, .int p1)]) (by decide) (Nat.le_of_ble_eq_true rfl) rfl (fun x hl hg C hret => ?_)
  subst hl; subst hg
  rw [f_AL_gap] at hf
  refine r_iload_n C eX10_gap_0 1 rfl rfl ?_
  refine r_S_z (ws' := w_AL (z_g x) a0 o0 v0) C (c_AL_isSearchLength (z_l x) (z_g x)  p1 _ rfl) eX10_gap_1 MX10_249 [] rfl rfl rfl rfl rfl rfl rfl rfl rfl (fun zb1 => ?_)
  refine r_if_eq C eX10_gap_4 (fun c2 => ?_) (fun c2 => ?_)
  · rw [if_pos c2] at hf
    refine r_ldc C (v := (-1000000002)) eX10_gap_30 q424 ?_
    obtain rfl := Option.some.inj (show some (((-1000000002), (gSh_ints (gSe_probe (gAL_search v0))), (gSh_harm (gSe_probe (gAL_search v0))), (gLi_fast (gSh_lines (gSe_probe (gAL_search v0)))), (gLi_place (gSh_lines (gSe_probe (gAL_search v0)))), (gLi_post (gSh_lines (gSe_probe (gAL_search v0)))), (gLi_length (gSh_lines (gSe_probe (gAL_search v0)))), (gQu_ints (gSe_other (gAL_search v0))), (gQu_places (gSe_other (gAL_search v0))), (gQu_strengths (gSe_other (gAL_search v0)))) : Int32 × (Nat → Int32) × Int64 × (Nat → Int32) × (Nat → Int32) × (Nat → Int32) × (Nat → Int32) × (Nat → Int32) × (Nat → Int32) × (Nat → Int32)) = some _ from hf)
    exact hret _ _ _ eX10_gap_32
  · rw [if_neg c2] at hf
    refine r_aload_n C eX10_gap_7 0 rfl rfl ?_
    refine r_get (v := .ref (a0 (o0 + 51))) C eX10_gap_8 FX10_69 0 rfl rfl ?_
    refine r_aload_n C eX10_gap_11 0 rfl rfl ?_
    refine r_get (v := .ref (a0 (o0 + 18))) C eX10_gap_12 FX10_26 0 rfl rfl ?_
    refine r_aload_n C eX10_gap_15 0 rfl rfl ?_
    refine r_get (v := .ref (a0 (o0 + 27))) C eX10_gap_16 FX10_47 0 rfl rfl ?_
    refine r_aload_n C eX10_gap_19 0 rfl rfl ?_
    refine r_get (v := .ref (a0 (o0 + 21))) C eX10_gap_20 FX10_33 0 rfl rfl ?_
    refine r_iload_n C eX10_gap_23 1 rfl rfl ?_
    obtain ⟨r3, hr3, hf⟩ := zbind hf
    refine r_V_i (ws' := w_AL (z_g x) a0 o0 (sAL_search v0 (sSe_other (sSe_probe (gAL_search v0) (sSh_lines (sSh_harm (sSh_ints (gSe_probe (gAL_search v0)) (r3.2.1)) (r3.2.2.1)) (sLi_length (sLi_post (sLi_place (sLi_fast (gSh_lines (gSe_probe (gAL_search v0))) (r3.2.2.2.1)) (r3.2.2.2.2.1)) (r3.2.2.2.2.2.1)) (r3.2.2.2.2.2.2.1)))) (sQu_strengths (sQu_places (sQu_ints (gSe_other (gAL_search v0)) (r3.2.2.2.2.2.2.2.1)) (r3.2.2.2.2.2.2.2.2.1)) (r3.2.2.2.2.2.2.2.2.2))))) C (c_Se_leastGap (z_l x) (z_g x) a0 (o0 + 51) (gAL_search v0) a0 (o0 + 18) (gAL_quay v0) a0 (o0 + 27) (gAL_ship v0) a0 (o0 + 21) (gAL_plan v0) p1 r3 hr3) eX10_gap_24 MX10_256 ⟨0, 6, _, _, rfl, rfl, rfl⟩ [51, 52, 53, 54, 55, 56, 57, 58, 59, 60, 61, 62, 63, 64, 65, 66, 18, 19, 20, 27, 28, 29, 30, 31, 32, 21, 22, 23, 24] rfl rfl rfl rfl rfl rfl rfl rfl rfl ?_
    refine r_goto C eX10_gap_27 ?_
    obtain rfl := Option.some.inj (show some (((r3.1), (r3.2.1), (r3.2.2.1), (r3.2.2.2.1), (r3.2.2.2.2.1), (r3.2.2.2.2.2.1), (r3.2.2.2.2.2.2.1), (r3.2.2.2.2.2.2.2.1), (r3.2.2.2.2.2.2.2.2.1), (r3.2.2.2.2.2.2.2.2.2)) : Int32 × (Nat → Int32) × Int64 × (Nat → Int32) × (Nat → Int32) × (Nat → Int32) × (Nat → Int32) × (Nat → Int32) × (Nat → Int32) × (Nat → Int32)) = some _ from hf)
    exact hret _ _ _ eX10_gap_32
theorem eX10_go_0 : zd 1 cX10_go 0 1 (.iload_n 1) := ⟨by decide +kernel, rfl⟩
theorem eX10_go_1 : zd 1 cX10_go 1 2 (.iconst 1) := ⟨by decide +kernel, rfl⟩
theorem eX10_go_2 : zdi cX10_go 2 5 12 (.if_icmp .lt) := ⟨10, by decide +kernel, rfl, by decide⟩
theorem eX10_go_5 : zd 1 cX10_go 5 6 (.iload_n 1) := ⟨by decide +kernel, rfl⟩
theorem eX10_go_6 : zd 3 cX10_go 6 9 (.sipush 600) := ⟨by decide +kernel, rfl⟩
theorem eX10_go_9 : zdi cX10_go 9 12 15 (.if_icmp .le) := ⟨6, by decide +kernel, rfl, by decide⟩
theorem eX10_go_12 : zd 2 cX10_go 12 14 (.ldc 97) := ⟨by decide +kernel, rfl⟩
theorem eX10_go_14 : zd 1 cX10_go 14 15 (.ireturn) := ⟨by decide +kernel, rfl⟩
theorem eX10_go_15 : zd 1 cX10_go 15 16 (.iconst 0) := ⟨by decide +kernel, rfl⟩
theorem eX10_go_16 : zd 1 cX10_go 16 17 (.istore_n 2) := ⟨by decide +kernel, rfl⟩
theorem eX10_go_17 : zd 1 cX10_go 17 18 (.iconst 0) := ⟨by decide +kernel, rfl⟩
theorem eX10_go_18 : zd 1 cX10_go 18 19 (.istore_n 3) := ⟨by decide +kernel, rfl⟩
theorem eX10_go_19 : zd 1 cX10_go 19 20 (.iload_n 3) := ⟨by decide +kernel, rfl⟩
theorem eX10_go_20 : zd 1 cX10_go 20 21 (.iload_n 1) := ⟨by decide +kernel, rfl⟩
theorem eX10_go_21 : zdi cX10_go 21 24 44 (.if_icmp .ge) := ⟨23, by decide +kernel, rfl, by decide⟩
theorem eX10_go_24 : zd 1 cX10_go 24 25 (.iload_n 2) := ⟨by decide +kernel, rfl⟩
theorem eX10_go_25 : zd 1 cX10_go 25 26 (.aload_n 0) := ⟨by decide +kernel, rfl⟩
theorem eX10_go_26 : zd 3 cX10_go 26 29 (.getfield 47) := ⟨by decide +kernel, rfl⟩
theorem eX10_go_29 : zd 1 cX10_go 29 30 (.aload_n 0) := ⟨by decide +kernel, rfl⟩
theorem eX10_go_30 : zd 3 cX10_go 30 33 (.getfield 26) := ⟨by decide +kernel, rfl⟩
theorem eX10_go_33 : zd 3 cX10_go 33 36 (.invokevirtual 171) := ⟨by decide +kernel, rfl⟩
theorem eX10_go_36 : zd 1 cX10_go 36 37 (.iadd) := ⟨by decide +kernel, rfl⟩
theorem eX10_go_37 : zd 1 cX10_go 37 38 (.istore_n 2) := ⟨by decide +kernel, rfl⟩
theorem eX10_go_38 : zd 3 cX10_go 38 41 (.iinc 3 1) := ⟨by decide +kernel, rfl⟩
theorem eX10_go_41 : zdi cX10_go 41 44 19 (.goto) := ⟨(-22), by decide +kernel, rfl, by decide⟩
theorem eX10_go_44 : zd 1 cX10_go 44 45 (.iload_n 2) := ⟨by decide +kernel, rfl⟩
theorem eX10_go_45 : zd 1 cX10_go 45 46 (.ireturn) := ⟨by decide +kernel, rfl⟩
theorem MX10_171 : zlV RX10 171 yX7_passSecond cX7_passSecond 4 ((Option.some FieldType.int)) 1 := ⟨q720, q721, q722, q7, q723, by decide, by decide, by decide +kernel⟩
noncomputable def fB_AL_go_19 (v0 : tAL) (p1 : Int32) (ih : (Int32 × Int32 × (Nat → Int32) × Int64 × (Nat → Int32)) → Option (Int32 × Int32 × (Nat → Int32) × Int64 × (Nat → Int32))) (s3 : Int32 × Int32 × (Nat → Int32) × Int64 × (Nat → Int32)) : Option (Int32 × Int32 × (Nat → Int32) × Int64 × (Nat → Int32)) := (if p1 ≤ (s3.2.1) then (some ((s3.1), (s3.2.1), (s3.2.2.1), (s3.2.2.2.1), (s3.2.2.2.2))) else (Option.bind (f_Sh_passSecond (sSh_lines (sSh_harm (sSh_ints (gAL_ship v0) (s3.2.2.1)) (s3.2.2.2.1)) (sLi_fast (gSh_lines (gAL_ship v0)) (s3.2.2.2.2))) (gAL_quay v0)) (fun (r9 : Int32 × (Nat → Int32) × Int64 × (Nat → Int32)) => (zlet ((s3.1) + (r9.1)) (fun (z10 : Int32) => (ih (z10, ((s3.2.1) + 1), (r9.2.1), (r9.2.2.1), (r9.2.2.2))))))))
noncomputable def f_AL_go (v0 : tAL) (p1 : Int32) : Option (Int32 × (Nat → Int32) × Int64 × (Nat → Int32)) := (if p1 < 1 then (some ((-1000000002), (gSh_ints (gAL_ship v0)), (gSh_harm (gAL_ship v0)), (gLi_fast (gSh_lines (gAL_ship v0))))) else (if p1 ≤ 600 then (Option.bind (lp (fB_AL_go_19 v0 p1) LF (0, 0, (gSh_ints (gAL_ship v0)), (gSh_harm (gAL_ship v0)), (gLi_fast (gSh_lines (gAL_ship v0))))) (fun (q4 : Int32 × Int32 × (Nat → Int32) × Int64 × (Nat → Int32)) => (some ((q4.1), (q4.2.2.1), (q4.2.2.2.1), (q4.2.2.2.2))))) else (some ((-1000000002), (gSh_ints (gAL_ship v0)), (gSh_harm (gAL_ship v0)), (gLi_fast (gSh_lines (gAL_ship v0)))))))
abbrev rm_AL_go : Room := { frames := 4, cells := 0, slots := 0, locals := 102 }
set_option maxHeartbeats 4000000 in
set_option maxRecDepth 100000 in
theorem c_AL_go (l : Launch) (g : zGl) (a0 : Nat → Nat) (o0 : Nat) (v0 : tAL) (p1 : Int32) (out : Int32 × (Nat → Int32) × Int64 × (Nat → Int32)) (hf : f_AL_go v0 p1 = some out) : zMi l yX10_go cX10_go 4 rm_AL_go g [.ref (a0 o0), .int p1] (w_AL g a0 o0 v0) (out.1) (w_AL g a0 o0 (sAL_ship v0 (sSh_lines (sSh_harm (sSh_ints (gAL_ship v0) (out.2.1)) (out.2.2.1)) (sLi_fast (gSh_lines (gAL_ship v0)) (out.2.2.2))))) := by
  refine zMi_of (lv := [(0, .ref (a0 o0)), (1, .int p1)]) (by decide) (Nat.le_of_ble_eq_true rfl) rfl (fun x hl hg C hret => ?_)
  subst hl; subst hg
  rw [f_AL_go] at hf
  refine r_iload_n C eX10_go_0 1 rfl rfl ?_
  refine r_iconst C (v := 1) eX10_go_1 (by decide) ?_
  refine r_icmp_lt C eX10_go_2 (fun c1 => ?_) (fun c1 => ?_)
  · rw [if_pos c1] at hf
    refine r_ldc C (v := (-1000000002)) eX10_go_12 q424 ?_
    obtain rfl := Option.some.inj (show some (((-1000000002), (gSh_ints (gAL_ship v0)), (gSh_harm (gAL_ship v0)), (gLi_fast (gSh_lines (gAL_ship v0)))) : Int32 × (Nat → Int32) × Int64 × (Nat → Int32)) = some _ from hf)
    exact hret _ _ _ eX10_go_14
  · rw [if_neg c1] at hf
    refine r_iload_n C eX10_go_5 1 rfl rfl ?_
    refine r_sipush C (v := 600) eX10_go_6 (by decide) ?_
    refine r_icmp_le C eX10_go_9 (fun c2 => ?_) (fun c2 => ?_)
    · rw [if_pos c2] at hf
      refine r_iconst C (v := 0) eX10_go_15 (by decide) ?_
      refine r_istore_n C [(2, .int 0), (0, .ref (a0 o0)), (1, .int p1)] eX10_go_16 rfl (by decide) rfl ?_
      refine r_iconst C (v := 0) eX10_go_17 (by decide) ?_
      refine r_istore_n C [(3, .int 0), (2, .int 0), (0, .ref (a0 o0)), (1, .int p1)] eX10_go_18 rfl (by decide) rfl ?_
      obtain ⟨q4, h5, hf⟩ := zbind hf
      have J6 : vV x 4 0 0 (w_AL (z_g x) a0 o0 (sAL_ship v0 (sSh_lines (sSh_harm (sSh_ints (gAL_ship v0) (q4.2.2.1)) (q4.2.2.2.1)) (sLi_fast (gSh_lines (gAL_ship v0)) (q4.2.2.2.2))))) 44 [(2, .int (q4.1))] [] := by
        refine r_iload_n C eX10_go_44 0 rfl rfl ?_
        obtain rfl := Option.some.inj (show some (((q4.1), (q4.2.2.1), (q4.2.2.2.1), (q4.2.2.2.2)) : Int32 × (Nat → Int32) × Int64 × (Nat → Int32)) = some _ from hf)
        exact hret _ _ _ eX10_go_45
      have L7 : ∀ (nL7 : Nat) (s3 : Int32 × Int32 × (Nat → Int32) × Int64 × (Nat → Int32)), lp (fB_AL_go_19 v0 p1) nL7 s3 = some q4 → vV x 4 0 0 (w_AL (z_g x) a0 o0 (sAL_ship v0 (sSh_lines (sSh_harm (sSh_ints (gAL_ship v0) (s3.2.2.1)) (s3.2.2.2.1)) (sLi_fast (gSh_lines (gAL_ship v0)) (s3.2.2.2.2))))) 19 [(0, .ref (a0 o0)), (1, .int p1), (2, .int (s3.1)), (3, .int (s3.2.1))] [] := by
        intro nL7
        induction nL7 with
        | zero => intro s3 hq; cases hq
        | succ nL7 ihL7 =>
          intro s3 hbL7
          rw [lp_succ, fB_AL_go_19] at hbL7
          refine r_iload_n C eX10_go_19 3 rfl rfl ?_
          refine r_iload_n C eX10_go_20 1 rfl rfl ?_
          refine r_icmp_ge C eX10_go_21 (fun c8 => ?_) (fun c8 => ?_)
          · rw [if_pos c8] at hbL7
            obtain rfl := Option.some.inj hbL7
            refine r_sub (lv' := [(2, .int (s3.1))]) [2] rfl ?_
            exact J6
          · rw [if_neg c8] at hbL7
            refine r_iload_n C eX10_go_24 2 rfl rfl ?_
            refine r_aload_n C eX10_go_25 0 rfl rfl ?_
            refine r_get (v := .ref (a0 (o0 + 27))) C eX10_go_26 FX10_47 0 rfl rfl ?_
            refine r_aload_n C eX10_go_29 0 rfl rfl ?_
            refine r_get (v := .ref (a0 (o0 + 18))) C eX10_go_30 FX10_26 0 rfl rfl ?_
            obtain ⟨r9, hr9, hbL7⟩ := zbind hbL7
            refine r_V_i (ws' := w_AL (z_g x) a0 o0 (sAL_ship v0 (sSh_lines (sSh_harm (sSh_ints (gAL_ship v0) (r9.2.1)) (r9.2.2.1)) (sLi_fast (gSh_lines (gAL_ship v0)) (r9.2.2.2))))) C (c_Sh_passSecond (z_l x) (z_g x) a0 (o0 + 27) (sSh_lines (sSh_harm (sSh_ints (gAL_ship v0) (s3.2.2.1)) (s3.2.2.2.1)) (sLi_fast (gSh_lines (gAL_ship v0)) (s3.2.2.2.2))) a0 (o0 + 18) (gAL_quay v0)  r9 hr9) eX10_go_33 MX10_171 ⟨0, 7, _, _, rfl, rfl, rfl⟩ [27, 28, 29, 30, 31, 32, 18, 19, 20] rfl rfl rfl rfl rfl rfl rfl rfl rfl ?_
            refine r_iadd C eX10_go_36 ?_
            obtain ⟨z10, hz10, hbL7⟩ := zlet_of hbL7
            refine r_nami hz10 ?_
            refine r_istore_n C [(2, .int z10), (0, .ref (a0 o0)), (1, .int p1), (3, .int (s3.2.1))] eX10_go_37 rfl (by decide) rfl ?_
            refine r_iinc C (v := ((s3.2.1) + 1)) [(3, .int ((s3.2.1) + 1)), (2, .int z10), (0, .ref (a0 o0)), (1, .int p1)] eX10_go_38 3 rfl rfl (by decide) rfl ?_
            refine r_goto C eX10_go_41 ?_
            refine r_sub (lv' := [(0, .ref (a0 o0)), (1, .int p1), (2, .int z10), (3, .int ((s3.2.1) + 1))]) [2, 3, 1, 0] rfl ?_
            exact ihL7 (z10, ((s3.2.1) + 1), (r9.2.1), (r9.2.2.1), (r9.2.2.2)) hbL7
      refine r_sub (lv' := [(0, .ref (a0 o0)), (1, .int p1), (2, .int 0), (3, .int 0)]) [2, 3, 1, 0] rfl ?_
      exact L7 LF (0, 0, (gSh_ints (gAL_ship v0)), (gSh_harm (gAL_ship v0)), (gLi_fast (gSh_lines (gAL_ship v0)))) h5
    · rw [if_neg c2] at hf
      refine r_ldc C (v := (-1000000002)) eX10_go_12 q424 ?_
      obtain rfl := Option.some.inj (show some (((-1000000002), (gSh_ints (gAL_ship v0)), (gSh_harm (gAL_ship v0)), (gLi_fast (gSh_lines (gAL_ship v0)))) : Int32 × (Nat → Int32) × Int64 × (Nat → Int32)) = some _ from hf)
      exact hret _ _ _ eX10_go_14
theorem eX10_goBack_0 : zd 1 cX10_goBack 0 1 (.iload_n 1) := ⟨by decide +kernel, rfl⟩
theorem eX10_goBack_1 : zdi cX10_goBack 1 4 9 (.ifCond .lt) := ⟨8, by decide +kernel, rfl, by decide⟩
theorem eX10_goBack_4 : zd 1 cX10_goBack 4 5 (.iload_n 1) := ⟨by decide +kernel, rfl⟩
theorem eX10_goBack_5 : zd 1 cX10_goBack 5 6 (.iconst 2) := ⟨by decide +kernel, rfl⟩
theorem eX10_goBack_6 : zdi cX10_goBack 6 9 12 (.if_icmp .lt) := ⟨6, by decide +kernel, rfl, by decide⟩
theorem eX10_goBack_9 : zd 2 cX10_goBack 9 11 (.ldc 147) := ⟨by decide +kernel, rfl⟩
theorem eX10_goBack_11 : zd 1 cX10_goBack 11 12 (.ireturn) := ⟨by decide +kernel, rfl⟩
theorem eX10_goBack_12 : zd 1 cX10_goBack 12 13 (.aload_n 0) := ⟨by decide +kernel, rfl⟩
theorem eX10_goBack_13 : zd 3 cX10_goBack 13 16 (.getfield 55) := ⟨by decide +kernel, rfl⟩
theorem eX10_goBack_16 : zd 1 cX10_goBack 16 17 (.iload_n 1) := ⟨by decide +kernel, rfl⟩
theorem eX10_goBack_17 : zd 1 cX10_goBack 17 18 (.baload) := ⟨by decide +kernel, rfl⟩
theorem eX10_goBack_18 : zdi cX10_goBack 18 21 24 (.ifCond .ne) := ⟨6, by decide +kernel, rfl, by decide⟩
theorem eX10_goBack_21 : zd 2 cX10_goBack 21 23 (.ldc 194) := ⟨by decide +kernel, rfl⟩
theorem eX10_goBack_23 : zd 1 cX10_goBack 23 24 (.ireturn) := ⟨by decide +kernel, rfl⟩
theorem eX10_goBack_24 : zd 1 cX10_goBack 24 25 (.aload_n 0) := ⟨by decide +kernel, rfl⟩
theorem eX10_goBack_25 : zd 3 cX10_goBack 25 28 (.getfield 47) := ⟨by decide +kernel, rfl⟩
theorem eX10_goBack_28 : zd 1 cX10_goBack 28 29 (.aload_n 0) := ⟨by decide +kernel, rfl⟩
theorem eX10_goBack_29 : zd 3 cX10_goBack 29 32 (.getfield 51) := ⟨by decide +kernel, rfl⟩
theorem eX10_goBack_32 : zd 1 cX10_goBack 32 33 (.iload_n 1) := ⟨by decide +kernel, rfl⟩
theorem eX10_goBack_33 : zd 1 cX10_goBack 33 34 (.aaload) := ⟨by decide +kernel, rfl⟩
theorem eX10_goBack_34 : zd 3 cX10_goBack 34 37 (.invokevirtual 235) := ⟨by decide +kernel, rfl⟩
theorem eX10_goBack_37 : zd 1 cX10_goBack 37 38 (.iconst 1) := ⟨by decide +kernel, rfl⟩
theorem eX10_goBack_38 : zd 1 cX10_goBack 38 39 (.ireturn) := ⟨by decide +kernel, rfl⟩
theorem FX10_51 : zlF RX10 51 10 6 := ⟨(RX10, TX10, 15), rfl, by decide, q380, zin10⟩
theorem MX10_235 : zlV RX10 235 yX7_copyFrom cX7_copyFrom 3 (none) 1 := ⟨q874, q875, q876, q7, q877, by decide, by decide, by decide +kernel⟩
noncomputable def f_AL_goBack (v0 : tAL) (p1 : Int32) : Option (Int32 × (Nat → Int32) × Int64 × (Nat → Int32) × (Nat → Int32) × (Nat → Int32) × (Nat → Int32)) := (if p1 < 0 then (some ((-1000000001), (gSh_ints (gAL_ship v0)), (gSh_harm (gAL_ship v0)), (gLi_fast (gSh_lines (gAL_ship v0))), (gLi_place (gSh_lines (gAL_ship v0))), (gLi_post (gSh_lines (gAL_ship v0))), (gLi_length (gSh_lines (gAL_ship v0))))) else (if p1 < 2 then (if inb p1 2 = true then (if ((gAL_kept v0) (ix p1)) = 0 then (some ((-1000000003), (gSh_ints (gAL_ship v0)), (gSh_harm (gAL_ship v0)), (gLi_fast (gSh_lines (gAL_ship v0))), (gLi_place (gSh_lines (gAL_ship v0))), (gLi_post (gSh_lines (gAL_ship v0))), (gLi_length (gSh_lines (gAL_ship v0))))) else (if p1 = 0 then (Option.bind (f_Sh_copyFrom (gAL_ship v0) (gAL_images0 v0)) (fun (r6 : (Nat → Int32) × Int64 × (Nat → Int32) × (Nat → Int32) × (Nat → Int32) × (Nat → Int32)) => (some (1, (r6.1), (r6.2.1), (r6.2.2.1), (r6.2.2.2.1), (r6.2.2.2.2.1), (r6.2.2.2.2.2))))) else (if p1 = 1 then (Option.bind (f_Sh_copyFrom (gAL_ship v0) (gAL_images1 v0)) (fun (r8 : (Nat → Int32) × Int64 × (Nat → Int32) × (Nat → Int32) × (Nat → Int32) × (Nat → Int32)) => (some (1, (r8.1), (r8.2.1), (r8.2.2.1), (r8.2.2.2.1), (r8.2.2.2.2.1), (r8.2.2.2.2.2))))) else none))) else none) else (some ((-1000000001), (gSh_ints (gAL_ship v0)), (gSh_harm (gAL_ship v0)), (gLi_fast (gSh_lines (gAL_ship v0))), (gLi_place (gSh_lines (gAL_ship v0))), (gLi_post (gSh_lines (gAL_ship v0))), (gLi_length (gSh_lines (gAL_ship v0)))))))
abbrev rm_AL_goBack : Room := { frames := 3, cells := 0, slots := 0, locals := 65 }
set_option maxHeartbeats 4000000 in
set_option maxRecDepth 100000 in
theorem c_AL_goBack (l : Launch) (g : zGl) (a0 : Nat → Nat) (o0 : Nat) (v0 : tAL) (p1 : Int32) (out : Int32 × (Nat → Int32) × Int64 × (Nat → Int32) × (Nat → Int32) × (Nat → Int32) × (Nat → Int32)) (hf : f_AL_goBack v0 p1 = some out) : zMi l yX10_goBack cX10_goBack 2 rm_AL_goBack g [.ref (a0 o0), .int p1] (w_AL g a0 o0 v0) (out.1) (w_AL g a0 o0 (sAL_ship v0 (sSh_lines (sSh_harm (sSh_ints (gAL_ship v0) (out.2.1)) (out.2.2.1)) (sLi_length (sLi_post (sLi_place (sLi_fast (gSh_lines (gAL_ship v0)) (out.2.2.2.1)) (out.2.2.2.2.1)) (out.2.2.2.2.2.1)) (out.2.2.2.2.2.2))))) := by
  refine zMi_of (lv := [(0, .ref (a0 o0)), (1, .int p1)]) (by decide) (Nat.le_of_ble_eq_true rfl) rfl (fun x hl hg C hret => ?_)
  subst hl; subst hg
  rw [f_AL_goBack] at hf
  refine r_iload_n C eX10_goBack_0 1 rfl rfl ?_
  refine r_if_lt C eX10_goBack_1 (fun c1 => ?_) (fun c1 => ?_)
  · rw [if_pos c1] at hf
    refine r_ldc C (v := (-1000000001)) eX10_goBack_9 q649 ?_
    obtain rfl := Option.some.inj (show some (((-1000000001), (gSh_ints (gAL_ship v0)), (gSh_harm (gAL_ship v0)), (gLi_fast (gSh_lines (gAL_ship v0))), (gLi_place (gSh_lines (gAL_ship v0))), (gLi_post (gSh_lines (gAL_ship v0))), (gLi_length (gSh_lines (gAL_ship v0)))) : Int32 × (Nat → Int32) × Int64 × (Nat → Int32) × (Nat → Int32) × (Nat → Int32) × (Nat → Int32)) = some _ from hf)
    exact hret _ _ _ eX10_goBack_11
  · rw [if_neg c1] at hf
    refine r_iload_n C eX10_goBack_4 1 rfl rfl ?_
    refine r_iconst C (v := 2) eX10_goBack_5 (by decide) ?_
    refine r_icmp_lt C eX10_goBack_6 (fun c2 => ?_) (fun c2 => ?_)
    · rw [if_pos c2] at hf
      refine r_aload_n C eX10_goBack_12 0 rfl rfl ?_
      refine r_get (v := .ref (a0 (o0 + 2))) C eX10_goBack_13 FX10_55 0 rfl rfl ?_
      refine r_iload_n C eX10_goBack_16 1 rfl rfl ?_
      obtain ⟨hb3, hf⟩ := zchk hf
      refine r_zald C eX10_goBack_17 2 rfl (inb_in hb3) ((gAL_kept v0) (ix p1)) rfl ?_
      refine r_if_ne C eX10_goBack_18 (fun c4 => ?_) (fun c4 => ?_)
      · rw [if_neg c4] at hf
        refine r_aload_n C eX10_goBack_24 0 rfl rfl ?_
        refine r_get (v := .ref (a0 (o0 + 27))) C eX10_goBack_25 FX10_47 0 rfl rfl ?_
        refine r_aload_n C eX10_goBack_28 0 rfl rfl ?_
        refine r_get (v := .ref (a0 (o0 + 1))) C eX10_goBack_29 FX10_51 0 rfl rfl ?_
        refine r_iload_n C eX10_goBack_32 1 rfl rfl ?_
        by_cases c5 : p1 = 0
        · rw [if_pos c5] at hf
          refine r_aald C (v := 0) eX10_goBack_33 1 c5 0 (by decide) rfl (a0 (o0 + 33)) ⟨rfl, by decide⟩ ?_
          obtain ⟨r6, hr6, hf⟩ := zbind hf
          refine r_V_v (ws' := w_AL (z_g x) a0 o0 (sAL_ship v0 (sSh_lines (sSh_harm (sSh_ints (gAL_ship v0) (r6.1)) (r6.2.1)) (sLi_length (sLi_post (sLi_place (sLi_fast (gSh_lines (gAL_ship v0)) (r6.2.2.1)) (r6.2.2.2.1)) (r6.2.2.2.2.1)) (r6.2.2.2.2.2))))) C (c_Sh_copyFrom (z_l x) (z_g x) a0 (o0 + 27) (gAL_ship v0) a0 (o0 + 33) (gAL_images0 v0)  r6 hr6) eX10_goBack_34 MX10_235 ⟨0, 7, _, _, rfl, rfl, rfl⟩ [27, 28, 29, 30, 31, 32, 33, 34, 35, 36, 37, 38] rfl rfl rfl rfl rfl rfl rfl rfl rfl ?_
          refine r_iconst C (v := 1) eX10_goBack_37 (by decide) ?_
          obtain rfl := Option.some.inj (show some ((1, (r6.1), (r6.2.1), (r6.2.2.1), (r6.2.2.2.1), (r6.2.2.2.2.1), (r6.2.2.2.2.2)) : Int32 × (Nat → Int32) × Int64 × (Nat → Int32) × (Nat → Int32) × (Nat → Int32) × (Nat → Int32)) = some _ from hf)
          exact hret _ _ _ eX10_goBack_38
        rw [if_neg c5] at hf
        by_cases c7 : p1 = 1
        · rw [if_pos c7] at hf
          refine r_aald C (v := 1) eX10_goBack_33 1 c7 1 (by decide) rfl (a0 (o0 + 39)) ⟨rfl, by decide⟩ ?_
          obtain ⟨r8, hr8, hf⟩ := zbind hf
          refine r_V_v (ws' := w_AL (z_g x) a0 o0 (sAL_ship v0 (sSh_lines (sSh_harm (sSh_ints (gAL_ship v0) (r8.1)) (r8.2.1)) (sLi_length (sLi_post (sLi_place (sLi_fast (gSh_lines (gAL_ship v0)) (r8.2.2.1)) (r8.2.2.2.1)) (r8.2.2.2.2.1)) (r8.2.2.2.2.2))))) C (c_Sh_copyFrom (z_l x) (z_g x) a0 (o0 + 27) (gAL_ship v0) a0 (o0 + 39) (gAL_images1 v0)  r8 hr8) eX10_goBack_34 MX10_235 ⟨0, 7, _, _, rfl, rfl, rfl⟩ [27, 28, 29, 30, 31, 32, 39, 40, 41, 42, 43, 44] rfl rfl rfl rfl rfl rfl rfl rfl rfl ?_
          refine r_iconst C (v := 1) eX10_goBack_37 (by decide) ?_
          obtain rfl := Option.some.inj (show some ((1, (r8.1), (r8.2.1), (r8.2.2.1), (r8.2.2.2.1), (r8.2.2.2.2.1), (r8.2.2.2.2.2)) : Int32 × (Nat → Int32) × Int64 × (Nat → Int32) × (Nat → Int32) × (Nat → Int32) × (Nat → Int32)) = some _ from hf)
          exact hret _ _ _ eX10_goBack_38
        rw [if_neg c7] at hf
        cases hf
      · rw [if_pos c4] at hf
        refine r_ldc C (v := (-1000000003)) eX10_goBack_21 q801 ?_
        obtain rfl := Option.some.inj (show some (((-1000000003), (gSh_ints (gAL_ship v0)), (gSh_harm (gAL_ship v0)), (gLi_fast (gSh_lines (gAL_ship v0))), (gLi_place (gSh_lines (gAL_ship v0))), (gLi_post (gSh_lines (gAL_ship v0))), (gLi_length (gSh_lines (gAL_ship v0)))) : Int32 × (Nat → Int32) × Int64 × (Nat → Int32) × (Nat → Int32) × (Nat → Int32) × (Nat → Int32)) = some _ from hf)
        exact hret _ _ _ eX10_goBack_23
    · rw [if_neg c2] at hf
      refine r_ldc C (v := (-1000000001)) eX10_goBack_9 q649 ?_
      obtain rfl := Option.some.inj (show some (((-1000000001), (gSh_ints (gAL_ship v0)), (gSh_harm (gAL_ship v0)), (gLi_fast (gSh_lines (gAL_ship v0))), (gLi_place (gSh_lines (gAL_ship v0))), (gLi_post (gSh_lines (gAL_ship v0))), (gLi_length (gSh_lines (gAL_ship v0)))) : Int32 × (Nat → Int32) × Int64 × (Nat → Int32) × (Nat → Int32) × (Nat → Int32) × (Nat → Int32)) = some _ from hf)
      exact hret _ _ _ eX10_goBack_11
theorem eX10_heave_0 : zd 1 cX10_heave 0 1 (.iload_n 1) := ⟨by decide +kernel, rfl⟩
theorem eX10_heave_1 : zd 3 cX10_heave 1 4 (.invokestatic 179) := ⟨by decide +kernel, rfl⟩
theorem eX10_heave_4 : zdi cX10_heave 4 7 18 (.ifCond .eq) := ⟨14, by decide +kernel, rfl, by decide⟩
theorem eX10_heave_7 : zd 1 cX10_heave 7 8 (.aload_n 0) := ⟨by decide +kernel, rfl⟩
theorem eX10_heave_8 : zd 3 cX10_heave 8 11 (.getfield 26) := ⟨by decide +kernel, rfl⟩
theorem eX10_heave_11 : zd 1 cX10_heave 11 12 (.iload_n 3) := ⟨by decide +kernel, rfl⟩
theorem eX10_heave_12 : zd 3 cX10_heave 12 15 (.invokevirtual 144) := ⟨by decide +kernel, rfl⟩
theorem eX10_heave_15 : zdi cX10_heave 15 18 21 (.ifCond .ne) := ⟨6, by decide +kernel, rfl, by decide⟩
theorem eX10_heave_18 : zd 2 cX10_heave 18 20 (.ldc 147) := ⟨by decide +kernel, rfl⟩
theorem eX10_heave_20 : zd 1 cX10_heave 20 21 (.ireturn) := ⟨by decide +kernel, rfl⟩
theorem eX10_heave_21 : zd 1 cX10_heave 21 22 (.iload_n 2) := ⟨by decide +kernel, rfl⟩
theorem eX10_heave_22 : zd 3 cX10_heave 22 25 (.invokestatic 184) := ⟨by decide +kernel, rfl⟩
theorem eX10_heave_25 : zdi cX10_heave 25 28 31 (.ifCond .ne) := ⟨6, by decide +kernel, rfl, by decide⟩
theorem eX10_heave_28 : zd 2 cX10_heave 28 30 (.ldc 97) := ⟨by decide +kernel, rfl⟩
theorem eX10_heave_30 : zd 1 cX10_heave 30 31 (.ireturn) := ⟨by decide +kernel, rfl⟩
theorem eX10_heave_31 : zd 1 cX10_heave 31 32 (.aload_n 0) := ⟨by decide +kernel, rfl⟩
theorem eX10_heave_32 : zd 3 cX10_heave 32 35 (.getfield 47) := ⟨by decide +kernel, rfl⟩
theorem eX10_heave_35 : zd 3 cX10_heave 35 38 (.getfield 187) := ⟨by decide +kernel, rfl⟩
theorem eX10_heave_38 : zd 1 cX10_heave 38 39 (.iload_n 1) := ⟨by decide +kernel, rfl⟩
theorem eX10_heave_39 : zd 3 cX10_heave 39 42 (.invokevirtual 191) := ⟨by decide +kernel, rfl⟩
theorem eX10_heave_42 : zdi cX10_heave 42 45 48 (.ifCond .eq) := ⟨6, by decide +kernel, rfl, by decide⟩
theorem eX10_heave_45 : zd 2 cX10_heave 45 47 (.ldc 194) := ⟨by decide +kernel, rfl⟩
theorem eX10_heave_47 : zd 1 cX10_heave 47 48 (.ireturn) := ⟨by decide +kernel, rfl⟩
theorem eX10_heave_48 : zd 1 cX10_heave 48 49 (.aload_n 0) := ⟨by decide +kernel, rfl⟩
theorem eX10_heave_49 : zd 3 cX10_heave 49 52 (.getfield 47) := ⟨by decide +kernel, rfl⟩
theorem eX10_heave_52 : zd 1 cX10_heave 52 53 (.aload_n 0) := ⟨by decide +kernel, rfl⟩
theorem eX10_heave_53 : zd 3 cX10_heave 53 56 (.getfield 26) := ⟨by decide +kernel, rfl⟩
theorem eX10_heave_56 : zd 1 cX10_heave 56 57 (.iload_n 1) := ⟨by decide +kernel, rfl⟩
theorem eX10_heave_57 : zd 1 cX10_heave 57 58 (.iload_n 2) := ⟨by decide +kernel, rfl⟩
theorem eX10_heave_58 : zd 1 cX10_heave 58 59 (.iload_n 3) := ⟨by decide +kernel, rfl⟩
theorem eX10_heave_59 : zd 3 cX10_heave 59 62 (.invokevirtual 203) := ⟨by decide +kernel, rfl⟩
theorem eX10_heave_62 : zdi cX10_heave 62 65 69 (.ifCond .eq) := ⟨7, by decide +kernel, rfl, by decide⟩
theorem eX10_heave_65 : zd 1 cX10_heave 65 66 (.iconst 1) := ⟨by decide +kernel, rfl⟩
theorem eX10_heave_66 : zdi cX10_heave 66 69 70 (.goto) := ⟨4, by decide +kernel, rfl, by decide⟩
theorem eX10_heave_69 : zd 1 cX10_heave 69 70 (.iconst 0) := ⟨by decide +kernel, rfl⟩
theorem eX10_heave_70 : zd 1 cX10_heave 70 71 (.ireturn) := ⟨by decide +kernel, rfl⟩
theorem MX10_203 : zlV RX10 203 yX7_heaveLine cX7_heaveLine 5 ((Option.some FieldType.boolean)) 4 := ⟨q818, q819, q820, q7, q821, by decide, by decide, by decide +kernel⟩
noncomputable def f_AL_heave (v0 : tAL) (p1 : Int32) (p2 : Int32) (p3 : Int32) : Option (Int32 × (Nat → Int32) × (Nat → Int32) × (Nat → Int32) × (Nat → Int32) × (Nat → Int32)) := (if (f_Li_isNumber p1) = 0 then (some ((-1000000001), (gSh_ints (gAL_ship v0)), (gLi_fast (gSh_lines (gAL_ship v0))), (gLi_place (gSh_lines (gAL_ship v0))), (gLi_post (gSh_lines (gAL_ship v0))), (gLi_length (gSh_lines (gAL_ship v0))))) else (if (f_Qu_hasPost (gAL_quay v0) p3) = 0 then (some ((-1000000001), (gSh_ints (gAL_ship v0)), (gLi_fast (gSh_lines (gAL_ship v0))), (gLi_place (gSh_lines (gAL_ship v0))), (gLi_post (gSh_lines (gAL_ship v0))), (gLi_length (gSh_lines (gAL_ship v0))))) else (if (f_Sh_isPlace p2) = 0 then (some ((-1000000002), (gSh_ints (gAL_ship v0)), (gLi_fast (gSh_lines (gAL_ship v0))), (gLi_place (gSh_lines (gAL_ship v0))), (gLi_post (gSh_lines (gAL_ship v0))), (gLi_length (gSh_lines (gAL_ship v0))))) else (Option.bind (f_Li_isFast (gSh_lines (gAL_ship v0)) p1) (fun (r7 : Int32) => (if r7 = 0 then (Option.bind (f_Sh_heaveLine (gAL_ship v0) (gAL_quay v0) p1 p2 p3) (fun (r10 : Int32 × (Nat → Int32) × (Nat → Int32) × (Nat → Int32) × (Nat → Int32) × (Nat → Int32)) => (if (r10.1) = 0 then (some (0, (r10.2.1), (r10.2.2.1), (r10.2.2.2.1), (r10.2.2.2.2.1), (r10.2.2.2.2.2))) else (some (1, (r10.2.1), (r10.2.2.1), (r10.2.2.2.1), (r10.2.2.2.2.1), (r10.2.2.2.2.2)))))) else (some ((-1000000003), (gSh_ints (gAL_ship v0)), (gLi_fast (gSh_lines (gAL_ship v0))), (gLi_place (gSh_lines (gAL_ship v0))), (gLi_post (gSh_lines (gAL_ship v0))), (gLi_length (gSh_lines (gAL_ship v0)))))))))))
abbrev rm_AL_heave : Room := { frames := 5, cells := 0, slots := 0, locals := 119 }
set_option maxHeartbeats 4000000 in
set_option maxRecDepth 100000 in
theorem c_AL_heave (l : Launch) (g : zGl) (a0 : Nat → Nat) (o0 : Nat) (v0 : tAL) (p1 : Int32) (p2 : Int32) (p3 : Int32) (out : Int32 × (Nat → Int32) × (Nat → Int32) × (Nat → Int32) × (Nat → Int32) × (Nat → Int32)) (hf : f_AL_heave v0 p1 p2 p3 = some out) : zMi l yX10_heave cX10_heave 4 rm_AL_heave g [.ref (a0 o0), .int p1, .int p2, .int p3] (w_AL g a0 o0 v0) (out.1) (w_AL g a0 o0 (sAL_ship v0 (sSh_lines (sSh_ints (gAL_ship v0) (out.2.1)) (sLi_length (sLi_post (sLi_place (sLi_fast (gSh_lines (gAL_ship v0)) (out.2.2.1)) (out.2.2.2.1)) (out.2.2.2.2.1)) (out.2.2.2.2.2))))) := by
  refine zMi_of (lv := [(0, .ref (a0 o0)), (1, .int p1), (2, .int p2), (3, .int p3)]) (by decide) (Nat.le_of_ble_eq_true rfl) rfl (fun x hl hg C hret => ?_)
  subst hl; subst hg
  rw [f_AL_heave] at hf
  refine r_iload_n C eX10_heave_0 1 rfl rfl ?_
  refine r_S_z (ws' := w_AL (z_g x) a0 o0 v0) C (c_Li_isNumber (z_l x) (z_g x)  p1 _ rfl) eX10_heave_1 MX10_179 [] rfl rfl rfl rfl rfl rfl rfl rfl rfl (fun zb1 => ?_)
  refine r_if_eq C eX10_heave_4 (fun c2 => ?_) (fun c2 => ?_)
  · rw [if_pos c2] at hf
    refine r_ldc C (v := (-1000000001)) eX10_heave_18 q649 ?_
    obtain rfl := Option.some.inj (show some (((-1000000001), (gSh_ints (gAL_ship v0)), (gLi_fast (gSh_lines (gAL_ship v0))), (gLi_place (gSh_lines (gAL_ship v0))), (gLi_post (gSh_lines (gAL_ship v0))), (gLi_length (gSh_lines (gAL_ship v0)))) : Int32 × (Nat → Int32) × (Nat → Int32) × (Nat → Int32) × (Nat → Int32) × (Nat → Int32)) = some _ from hf)
    exact hret _ _ _ eX10_heave_20
  · rw [if_neg c2] at hf
    refine r_aload_n C eX10_heave_7 0 rfl rfl ?_
    refine r_get (v := .ref (a0 (o0 + 18))) C eX10_heave_8 FX10_26 0 rfl rfl ?_
    refine r_iload_n C eX10_heave_11 3 rfl rfl ?_
    refine r_V_z (ws' := w_AL (z_g x) a0 o0 v0) C (c_Qu_hasPost (z_l x) (z_g x) a0 (o0 + 18) (gAL_quay v0) p3 _ rfl) eX10_heave_12 MX10_144 ⟨0, 4, _, _, rfl, rfl, rfl⟩ [18, 19, 20] rfl rfl rfl rfl rfl rfl rfl rfl rfl (fun zb3 => ?_)
    refine r_if_ne C eX10_heave_15 (fun c4 => ?_) (fun c4 => ?_)
    · rw [if_neg c4] at hf
      refine r_iload_n C eX10_heave_21 2 rfl rfl ?_
      refine r_S_z (ws' := w_AL (z_g x) a0 o0 v0) C (c_Sh_isPlace (z_l x) (z_g x)  p2 _ rfl) eX10_heave_22 MX10_184 [] rfl rfl rfl rfl rfl rfl rfl rfl rfl (fun zb5 => ?_)
      refine r_if_ne C eX10_heave_25 (fun c6 => ?_) (fun c6 => ?_)
      · rw [if_neg c6] at hf
        refine r_aload_n C eX10_heave_31 0 rfl rfl ?_
        refine r_get (v := .ref (a0 (o0 + 27))) C eX10_heave_32 FX10_47 0 rfl rfl ?_
        refine r_get (v := .ref (a0 ((o0 + 27) + 1))) C eX10_heave_35 FX10_187 27 rfl rfl ?_
        refine r_iload_n C eX10_heave_38 1 rfl rfl ?_
        obtain ⟨r7, hr7, hf⟩ := zbind hf
        refine r_V_z (ws' := w_AL (z_g x) a0 o0 v0) C (c_Li_isFast (z_l x) (z_g x) a0 ((o0 + 27) + 1) (gSh_lines (gAL_ship v0)) p1 r7 hr7) eX10_heave_39 MX10_191 ⟨0, 1, _, _, rfl, rfl, rfl⟩ [28, 29, 30, 31, 32] rfl rfl rfl rfl rfl rfl rfl rfl rfl (fun zb8 => ?_)
        refine r_if_eq C eX10_heave_42 (fun c9 => ?_) (fun c9 => ?_)
        · rw [if_pos c9] at hf
          refine r_aload_n C eX10_heave_48 0 rfl rfl ?_
          refine r_get (v := .ref (a0 (o0 + 27))) C eX10_heave_49 FX10_47 0 rfl rfl ?_
          refine r_aload_n C eX10_heave_52 0 rfl rfl ?_
          refine r_get (v := .ref (a0 (o0 + 18))) C eX10_heave_53 FX10_26 0 rfl rfl ?_
          refine r_iload_n C eX10_heave_56 1 rfl rfl ?_
          refine r_iload_n C eX10_heave_57 2 rfl rfl ?_
          refine r_iload_n C eX10_heave_58 3 rfl rfl ?_
          obtain ⟨r10, hr10, hf⟩ := zbind hf
          refine r_V_z (ws' := w_AL (z_g x) a0 o0 (sAL_ship v0 (sSh_lines (sSh_ints (gAL_ship v0) (r10.2.1)) (sLi_length (sLi_post (sLi_place (sLi_fast (gSh_lines (gAL_ship v0)) (r10.2.2.1)) (r10.2.2.2.1)) (r10.2.2.2.2.1)) (r10.2.2.2.2.2))))) C (c_Sh_heaveLine (z_l x) (z_g x) a0 (o0 + 27) (gAL_ship v0) a0 (o0 + 18) (gAL_quay v0) p1 p2 p3 r10 hr10) eX10_heave_59 MX10_203 ⟨0, 7, _, _, rfl, rfl, rfl⟩ [27, 28, 29, 30, 31, 32, 18, 19, 20] rfl rfl rfl rfl rfl rfl rfl rfl rfl (fun zb11 => ?_)
          refine r_if_eq C eX10_heave_62 (fun c12 => ?_) (fun c12 => ?_)
          · rw [if_pos c12] at hf
            refine r_iconst C (v := 0) eX10_heave_69 (by decide) ?_
            obtain rfl := Option.some.inj (show some ((0, (r10.2.1), (r10.2.2.1), (r10.2.2.2.1), (r10.2.2.2.2.1), (r10.2.2.2.2.2)) : Int32 × (Nat → Int32) × (Nat → Int32) × (Nat → Int32) × (Nat → Int32) × (Nat → Int32)) = some _ from hf)
            exact hret _ _ _ eX10_heave_70
          · rw [if_neg c12] at hf
            refine r_iconst C (v := 1) eX10_heave_65 (by decide) ?_
            refine r_goto C eX10_heave_66 ?_
            obtain rfl := Option.some.inj (show some ((1, (r10.2.1), (r10.2.2.1), (r10.2.2.2.1), (r10.2.2.2.2.1), (r10.2.2.2.2.2)) : Int32 × (Nat → Int32) × (Nat → Int32) × (Nat → Int32) × (Nat → Int32) × (Nat → Int32)) = some _ from hf)
            exact hret _ _ _ eX10_heave_70
        · rw [if_neg c9] at hf
          refine r_ldc C (v := (-1000000003)) eX10_heave_45 q801 ?_
          obtain rfl := Option.some.inj (show some (((-1000000003), (gSh_ints (gAL_ship v0)), (gLi_fast (gSh_lines (gAL_ship v0))), (gLi_place (gSh_lines (gAL_ship v0))), (gLi_post (gSh_lines (gAL_ship v0))), (gLi_length (gSh_lines (gAL_ship v0)))) : Int32 × (Nat → Int32) × (Nat → Int32) × (Nat → Int32) × (Nat → Int32) × (Nat → Int32)) = some _ from hf)
          exact hret _ _ _ eX10_heave_47
      · rw [if_pos c6] at hf
        refine r_ldc C (v := (-1000000002)) eX10_heave_28 q424 ?_
        obtain rfl := Option.some.inj (show some (((-1000000002), (gSh_ints (gAL_ship v0)), (gLi_fast (gSh_lines (gAL_ship v0))), (gLi_place (gSh_lines (gAL_ship v0))), (gLi_post (gSh_lines (gAL_ship v0))), (gLi_length (gSh_lines (gAL_ship v0)))) : Int32 × (Nat → Int32) × (Nat → Int32) × (Nat → Int32) × (Nat → Int32) × (Nat → Int32)) = some _ from hf)
        exact hret _ _ _ eX10_heave_30
    · rw [if_pos c4] at hf
      refine r_ldc C (v := (-1000000001)) eX10_heave_18 q649 ?_
      obtain rfl := Option.some.inj (show some (((-1000000001), (gSh_ints (gAL_ship v0)), (gLi_fast (gSh_lines (gAL_ship v0))), (gLi_place (gSh_lines (gAL_ship v0))), (gLi_post (gSh_lines (gAL_ship v0))), (gLi_length (gSh_lines (gAL_ship v0)))) : Int32 × (Nat → Int32) × (Nat → Int32) × (Nat → Int32) × (Nat → Int32) × (Nat → Int32)) = some _ from hf)
      exact hret _ _ _ eX10_heave_20
