theorem eX10_odds_0 : zd 1 cX10_odds 0 1 (.aload_n 0) := ⟨by decide +kernel, rfl⟩
theorem eX10_odds_1 : zd 3 cX10_odds 1 4 (.getfield 26) := ⟨by decide +kernel, rfl⟩
theorem eX10_odds_4 : zd 1 cX10_odds 4 5 (.iload_n 2) := ⟨by decide +kernel, rfl⟩
theorem eX10_odds_5 : zd 3 cX10_odds 5 8 (.invokevirtual 144) := ⟨by decide +kernel, rfl⟩
theorem eX10_odds_8 : zdi cX10_odds 8 11 14 (.ifCond .ne) := ⟨6, by decide +kernel, rfl, by decide⟩
theorem eX10_odds_11 : zd 2 cX10_odds 11 13 (.ldc 147) := ⟨by decide +kernel, rfl⟩
theorem eX10_odds_13 : zd 1 cX10_odds 13 14 (.ireturn) := ⟨by decide +kernel, rfl⟩
theorem eX10_odds_14 : zd 1 cX10_odds 14 15 (.iload_n 1) := ⟨by decide +kernel, rfl⟩
theorem eX10_odds_15 : zd 3 cX10_odds 15 18 (.invokestatic 184) := ⟨by decide +kernel, rfl⟩
theorem eX10_odds_18 : zdi cX10_odds 18 21 24 (.ifCond .ne) := ⟨6, by decide +kernel, rfl, by decide⟩
theorem eX10_odds_21 : zd 2 cX10_odds 21 23 (.ldc 97) := ⟨by decide +kernel, rfl⟩
theorem eX10_odds_23 : zd 1 cX10_odds 23 24 (.ireturn) := ⟨by decide +kernel, rfl⟩
theorem eX10_odds_24 : zd 1 cX10_odds 24 25 (.aload_n 0) := ⟨by decide +kernel, rfl⟩
theorem eX10_odds_25 : zd 3 cX10_odds 25 28 (.getfield 47) := ⟨by decide +kernel, rfl⟩
theorem eX10_odds_28 : zd 1 cX10_odds 28 29 (.aload_n 0) := ⟨by decide +kernel, rfl⟩
theorem eX10_odds_29 : zd 3 cX10_odds 29 32 (.getfield 26) := ⟨by decide +kernel, rfl⟩
theorem eX10_odds_32 : zd 1 cX10_odds 32 33 (.iload_n 1) := ⟨by decide +kernel, rfl⟩
theorem eX10_odds_33 : zd 1 cX10_odds 33 34 (.iload_n 2) := ⟨by decide +kernel, rfl⟩
theorem eX10_odds_34 : zd 3 cX10_odds 34 37 (.invokevirtual 207) := ⟨by decide +kernel, rfl⟩
theorem eX10_odds_37 : zd 1 cX10_odds 37 38 (.ireturn) := ⟨by decide +kernel, rfl⟩
theorem MX10_207 : zlV RX10 207 yX7_heaveOdds cX7_heaveOdds 4 ((Option.some FieldType.int)) 3 := ⟨q840, q831, q832, q7, q833, by decide, by decide, by decide +kernel⟩
noncomputable def f_AL_odds (v0 : tAL) (p1 : Int32) (p2 : Int32) : Option (Int32) := (if (f_Qu_hasPost (gAL_quay v0) p2) = 0 then (some (-1000000001)) else (if (f_Sh_isPlace p1) = 0 then (some (-1000000002)) else (Option.bind (f_Sh_heaveOdds (gAL_ship v0) (gAL_quay v0) p1 p2) (fun (r5 : Int32) => (some r5)))))
abbrev rm_AL_odds : Room := { frames := 4, cells := 0, slots := 0, locals := 95 }
set_option maxHeartbeats 4000000 in
set_option maxRecDepth 100000 in
theorem c_AL_odds (l : Launch) (g : zGl) (a0 : Nat → Nat) (o0 : Nat) (v0 : tAL) (p1 : Int32) (p2 : Int32) (out : Int32) (hf : f_AL_odds v0 p1 p2 = some out) : zMi l yX10_odds cX10_odds 3 rm_AL_odds g [.ref (a0 o0), .int p1, .int p2] (w_AL g a0 o0 v0) out (w_AL g a0 o0 v0) := by
  refine zMi_of (lv := [(0, .ref (a0 o0)), (1, .int p1), (2, .int p2)]) (by decide) (Nat.le_of_ble_eq_true rfl) rfl (fun x hl hg C hret => ?_)
  subst hl; subst hg
  rw [f_AL_odds] at hf
  refine r_aload_n C eX10_odds_0 0 rfl rfl ?_
  refine r_get (v := .ref (a0 (o0 + 18))) C eX10_odds_1 FX10_26 0 rfl rfl ?_
  refine r_iload_n C eX10_odds_4 2 rfl rfl ?_
  refine r_V_z (ws' := w_AL (z_g x) a0 o0 v0) C (c_Qu_hasPost (z_l x) (z_g x) a0 (o0 + 18) (gAL_quay v0) p2 _ rfl) eX10_odds_5 MX10_144 ⟨0, 4, _, _, rfl, rfl, rfl⟩ [18, 19, 20] rfl rfl rfl rfl rfl rfl rfl rfl rfl (fun zb1 => ?_)
  refine r_if_ne C eX10_odds_8 (fun c2 => ?_) (fun c2 => ?_)
  · rw [if_neg c2] at hf
    refine r_iload_n C eX10_odds_14 1 rfl rfl ?_
    refine r_S_z (ws' := w_AL (z_g x) a0 o0 v0) C (c_Sh_isPlace (z_l x) (z_g x)  p1 _ rfl) eX10_odds_15 MX10_184 [] rfl rfl rfl rfl rfl rfl rfl rfl rfl (fun zb3 => ?_)
    refine r_if_ne C eX10_odds_18 (fun c4 => ?_) (fun c4 => ?_)
    · rw [if_neg c4] at hf
      refine r_aload_n C eX10_odds_24 0 rfl rfl ?_
      refine r_get (v := .ref (a0 (o0 + 27))) C eX10_odds_25 FX10_47 0 rfl rfl ?_
      refine r_aload_n C eX10_odds_28 0 rfl rfl ?_
      refine r_get (v := .ref (a0 (o0 + 18))) C eX10_odds_29 FX10_26 0 rfl rfl ?_
      refine r_iload_n C eX10_odds_32 1 rfl rfl ?_
      refine r_iload_n C eX10_odds_33 2 rfl rfl ?_
      obtain ⟨r5, hr5, hf⟩ := zbind hf
      refine r_V_i (ws' := w_AL (z_g x) a0 o0 v0) C (c_Sh_heaveOdds (z_l x) (z_g x) a0 (o0 + 27) (gAL_ship v0) a0 (o0 + 18) (gAL_quay v0) p1 p2 r5 hr5) eX10_odds_34 MX10_207 ⟨0, 7, _, _, rfl, rfl, rfl⟩ [27, 28, 29, 30, 31, 32, 18, 19, 20] rfl rfl rfl rfl rfl rfl rfl rfl rfl ?_
      obtain rfl := Option.some.inj (show some (r5 : Int32) = some _ from hf)
      exact hret _ _ _ eX10_odds_37
    · rw [if_pos c4] at hf
      refine r_ldc C (v := (-1000000002)) eX10_odds_21 q424 ?_
      obtain rfl := Option.some.inj (show some ((-1000000002) : Int32) = some _ from hf)
      exact hret _ _ _ eX10_odds_23
  · rw [if_pos c2] at hf
    refine r_ldc C (v := (-1000000001)) eX10_odds_11 q649 ?_
    obtain rfl := Option.some.inj (show some ((-1000000001) : Int32) = some _ from hf)
    exact hret _ _ _ eX10_odds_13
theorem eX10_off_0 : zd 1 cX10_off 0 1 (.aload_n 0) := ⟨by decide +kernel, rfl⟩
theorem eX10_off_1 : zd 3 cX10_off 1 4 (.getfield 69) := ⟨by decide +kernel, rfl⟩
theorem eX10_off_4 : zd 1 cX10_off 4 5 (.aload_n 0) := ⟨by decide +kernel, rfl⟩
theorem eX10_off_5 : zd 3 cX10_off 5 8 (.getfield 26) := ⟨by decide +kernel, rfl⟩
theorem eX10_off_8 : zd 1 cX10_off 8 9 (.aload_n 0) := ⟨by decide +kernel, rfl⟩
theorem eX10_off_9 : zd 3 cX10_off 9 12 (.getfield 47) := ⟨by decide +kernel, rfl⟩
theorem eX10_off_12 : zd 3 cX10_off 12 15 (.invokevirtual 246) := ⟨by decide +kernel, rfl⟩
theorem eX10_off_15 : zd 1 cX10_off 15 16 (.ireturn) := ⟨by decide +kernel, rfl⟩
theorem MX10_246 : zlV RX10 246 yX6_greatestOff cX6_greatestOff 5 ((Option.some FieldType.int)) 2 := ⟨q903, q904, q905, q9, q906, by decide, by decide, by decide +kernel⟩
noncomputable def f_AL_off (v0 : tAL)  : Option (Int32 × (Nat → Int32) × Int64 × (Nat → Int32) × (Nat → Int32) × (Nat → Int32) × (Nat → Int32) × (Nat → Int32) × Int64 × (Nat → Int32) × (Nat → Int32) × (Nat → Int32) × (Nat → Int32)) := (Option.bind (f_Se_greatestOff (gAL_search v0) (gAL_quay v0) (gAL_ship v0)) (fun (r1 : Int32 × (Nat → Int32) × Int64 × (Nat → Int32) × (Nat → Int32) × (Nat → Int32) × (Nat → Int32) × (Nat → Int32) × Int64 × (Nat → Int32) × (Nat → Int32) × (Nat → Int32) × (Nat → Int32)) => (some ((r1.1), (r1.2.1), (r1.2.2.1), (r1.2.2.2.1), (r1.2.2.2.2.1), (r1.2.2.2.2.2.1), (r1.2.2.2.2.2.2.1), (r1.2.2.2.2.2.2.2.1), (r1.2.2.2.2.2.2.2.2.1), (r1.2.2.2.2.2.2.2.2.2.1), (r1.2.2.2.2.2.2.2.2.2.2.1), (r1.2.2.2.2.2.2.2.2.2.2.2.1), (r1.2.2.2.2.2.2.2.2.2.2.2.2)))))
abbrev rm_AL_off : Room := { frames := 6, cells := 0, slots := 0, locals := 148 }
set_option maxHeartbeats 4000000 in
set_option maxRecDepth 100000 in
theorem c_AL_off (l : Launch) (g : zGl) (a0 : Nat → Nat) (o0 : Nat) (v0 : tAL)  (out : Int32 × (Nat → Int32) × Int64 × (Nat → Int32) × (Nat → Int32) × (Nat → Int32) × (Nat → Int32) × (Nat → Int32) × Int64 × (Nat → Int32) × (Nat → Int32) × (Nat → Int32) × (Nat → Int32)) (hf : f_AL_off v0 = some out) : zMi l yX10_off cX10_off 1 rm_AL_off g [.ref (a0 o0)] (w_AL g a0 o0 v0) (out.1) (w_AL g a0 o0 (sAL_search v0 (sSe_probe (sSe_base (gAL_search v0) (sSh_lines (sSh_harm (sSh_ints (gSe_base (gAL_search v0)) (out.2.1)) (out.2.2.1)) (sLi_length (sLi_post (sLi_place (sLi_fast (gSh_lines (gSe_base (gAL_search v0))) (out.2.2.2.1)) (out.2.2.2.2.1)) (out.2.2.2.2.2.1)) (out.2.2.2.2.2.2.1)))) (sSh_lines (sSh_harm (sSh_ints (gSe_probe (gAL_search v0)) (out.2.2.2.2.2.2.2.1)) (out.2.2.2.2.2.2.2.2.1)) (sLi_length (sLi_post (sLi_place (sLi_fast (gSh_lines (gSe_probe (gAL_search v0))) (out.2.2.2.2.2.2.2.2.2.1)) (out.2.2.2.2.2.2.2.2.2.2.1)) (out.2.2.2.2.2.2.2.2.2.2.2.1)) (out.2.2.2.2.2.2.2.2.2.2.2.2)))))) := by
  refine zMi_of (lv := [(0, .ref (a0 o0))]) (by decide) (Nat.le_of_ble_eq_true rfl) rfl (fun x hl hg C hret => ?_)
  subst hl; subst hg
  rw [f_AL_off] at hf
  refine r_aload_n C eX10_off_0 0 rfl rfl ?_
  refine r_get (v := .ref (a0 (o0 + 51))) C eX10_off_1 FX10_69 0 rfl rfl ?_
  refine r_aload_n C eX10_off_4 0 rfl rfl ?_
  refine r_get (v := .ref (a0 (o0 + 18))) C eX10_off_5 FX10_26 0 rfl rfl ?_
  refine r_aload_n C eX10_off_8 0 rfl rfl ?_
  refine r_get (v := .ref (a0 (o0 + 27))) C eX10_off_9 FX10_47 0 rfl rfl ?_
  obtain ⟨r1, hr1, hf⟩ := zbind hf
  refine r_V_i (ws' := w_AL (z_g x) a0 o0 (sAL_search v0 (sSe_probe (sSe_base (gAL_search v0) (sSh_lines (sSh_harm (sSh_ints (gSe_base (gAL_search v0)) (r1.2.1)) (r1.2.2.1)) (sLi_length (sLi_post (sLi_place (sLi_fast (gSh_lines (gSe_base (gAL_search v0))) (r1.2.2.2.1)) (r1.2.2.2.2.1)) (r1.2.2.2.2.2.1)) (r1.2.2.2.2.2.2.1)))) (sSh_lines (sSh_harm (sSh_ints (gSe_probe (gAL_search v0)) (r1.2.2.2.2.2.2.2.1)) (r1.2.2.2.2.2.2.2.2.1)) (sLi_length (sLi_post (sLi_place (sLi_fast (gSh_lines (gSe_probe (gAL_search v0))) (r1.2.2.2.2.2.2.2.2.2.1)) (r1.2.2.2.2.2.2.2.2.2.2.1)) (r1.2.2.2.2.2.2.2.2.2.2.2.1)) (r1.2.2.2.2.2.2.2.2.2.2.2.2)))))) C (c_Se_greatestOff (z_l x) (z_g x) a0 (o0 + 51) (gAL_search v0) a0 (o0 + 18) (gAL_quay v0) a0 (o0 + 27) (gAL_ship v0)  r1 hr1) eX10_off_12 MX10_246 ⟨0, 6, _, _, rfl, rfl, rfl⟩ [51, 52, 53, 54, 55, 56, 57, 58, 59, 60, 61, 62, 63, 64, 65, 66, 18, 19, 20, 27, 28, 29, 30, 31, 32] rfl rfl rfl rfl rfl rfl rfl rfl rfl ?_
  obtain rfl := Option.some.inj (show some (((r1.1), (r1.2.1), (r1.2.2.1), (r1.2.2.2.1), (r1.2.2.2.2.1), (r1.2.2.2.2.2.1), (r1.2.2.2.2.2.2.1), (r1.2.2.2.2.2.2.2.1), (r1.2.2.2.2.2.2.2.2.1), (r1.2.2.2.2.2.2.2.2.2.1), (r1.2.2.2.2.2.2.2.2.2.2.1), (r1.2.2.2.2.2.2.2.2.2.2.2.1), (r1.2.2.2.2.2.2.2.2.2.2.2.2)) : Int32 × (Nat → Int32) × Int64 × (Nat → Int32) × (Nat → Int32) × (Nat → Int32) × (Nat → Int32) × (Nat → Int32) × Int64 × (Nat → Int32) × (Nat → Int32) × (Nat → Int32) × (Nat → Int32)) = some _ from hf)
  exact hret _ _ _ eX10_off_15
theorem eX10_order_0 : zd 1 cX10_order 0 1 (.aload_n 0) := ⟨by decide +kernel, rfl⟩
theorem eX10_order_1 : zd 3 cX10_order 1 4 (.getfield 47) := ⟨by decide +kernel, rfl⟩
theorem eX10_order_4 : zd 3 cX10_order 4 7 (.getfield 187) := ⟨by decide +kernel, rfl⟩
theorem eX10_order_7 : zd 3 cX10_order 7 10 (.invokevirtual 238) := ⟨by decide +kernel, rfl⟩
theorem eX10_order_10 : zdi cX10_order 10 13 16 (.ifCond .ne) := ⟨6, by decide +kernel, rfl, by decide⟩
theorem eX10_order_13 : zd 2 cX10_order 13 15 (.ldc 194) := ⟨by decide +kernel, rfl⟩
theorem eX10_order_15 : zd 1 cX10_order 15 16 (.ireturn) := ⟨by decide +kernel, rfl⟩
theorem eX10_order_16 : zd 1 cX10_order 16 17 (.aload_n 0) := ⟨by decide +kernel, rfl⟩
theorem eX10_order_17 : zd 3 cX10_order 17 20 (.getfield 83) := ⟨by decide +kernel, rfl⟩
theorem eX10_order_20 : zd 1 cX10_order 20 21 (.aload_n 0) := ⟨by decide +kernel, rfl⟩
theorem eX10_order_21 : zd 3 cX10_order 21 24 (.getfield 26) := ⟨by decide +kernel, rfl⟩
theorem eX10_order_24 : zd 1 cX10_order 24 25 (.aload_n 0) := ⟨by decide +kernel, rfl⟩
theorem eX10_order_25 : zd 3 cX10_order 25 28 (.getfield 47) := ⟨by decide +kernel, rfl⟩
theorem eX10_order_28 : zd 3 cX10_order 28 31 (.invokevirtual 289) := ⟨by decide +kernel, rfl⟩
theorem eX10_order_31 : zd 1 cX10_order 31 32 (.iload_n 1) := ⟨by decide +kernel, rfl⟩
theorem eX10_order_32 : zd 1 cX10_order 32 33 (.iconst (-1)) := ⟨by decide +kernel, rfl⟩
theorem eX10_order_33 : zdi cX10_order 33 36 46 (.if_icmp .ne) := ⟨13, by decide +kernel, rfl, by decide⟩
theorem eX10_order_36 : zd 1 cX10_order 36 37 (.aload_n 0) := ⟨by decide +kernel, rfl⟩
theorem eX10_order_37 : zd 3 cX10_order 37 40 (.getfield 83) := ⟨by decide +kernel, rfl⟩
theorem eX10_order_40 : zd 3 cX10_order 40 43 (.invokevirtual 293) := ⟨by decide +kernel, rfl⟩
theorem eX10_order_43 : zdi cX10_order 43 46 54 (.goto) := ⟨11, by decide +kernel, rfl, by decide⟩
theorem eX10_order_46 : zd 1 cX10_order 46 47 (.aload_n 0) := ⟨by decide +kernel, rfl⟩
theorem eX10_order_47 : zd 3 cX10_order 47 50 (.getfield 83) := ⟨by decide +kernel, rfl⟩
theorem eX10_order_50 : zd 1 cX10_order 50 51 (.iload_n 1) := ⟨by decide +kernel, rfl⟩
theorem eX10_order_51 : zd 3 cX10_order 51 54 (.invokevirtual 296) := ⟨by decide +kernel, rfl⟩
theorem eX10_order_54 : zd 1 cX10_order 54 55 (.ireturn) := ⟨by decide +kernel, rfl⟩
theorem FX10_83 : zlF RX10 83 10 12 := ⟨(RX10, TX10, 15), rfl, by decide, q386, zin10⟩
theorem MX10_238 : zlV RX10 238 yX1_count cX1_count 3 ((Option.some FieldType.int)) 0 := ⟨q883, q674, q675, q8, q676, by decide, by decide, by decide +kernel⟩
theorem MX10_289 : zlV RX10 289 yX0_weigh cX0_weigh 5 (none) 2 := ⟨q996, q997, q998, q11, q999, by decide, by decide, by decide +kernel⟩
theorem MX10_293 : zlV RX10 293 yX0_greatestStrain cX0_greatestStrain 1 ((Option.some FieldType.int)) 0 := ⟨q1016, q1017, q1018, q11, q1019, by decide, by decide, by decide +kernel⟩
theorem MX10_296 : zlV RX10 296 yX0_lineAt cX0_lineAt 5 ((Option.some FieldType.int)) 1 := ⟨q1020, q1021, q1022, q11, q1023, by decide, by decide, by decide +kernel⟩
noncomputable def f_AL_order (v0 : tAL) (p1 : Int32) : Option (Int32 × (Nat → Int32) × (Nat → Int32) × (Nat → Int32) × (Nat → Int32)) := (Option.bind (f_Li_count (gSh_lines (gAL_ship v0))) (fun (r1 : Int32) => (if r1 = 0 then (some ((-1000000003), (gLg_ints (gAL_lettingGo v0)), (gLg_shares (gAL_lettingGo v0)), (gLg_strengths (gAL_lettingGo v0)), (gLg_best (gAL_lettingGo v0)))) else (Option.bind (f_Lg_weigh (gAL_lettingGo v0) (gAL_quay v0) (gAL_ship v0)) (fun (r3 : (Nat → Int32) × (Nat → Int32) × (Nat → Int32) × (Nat → Int32)) => (if p1 = (-1) then (Option.bind (f_Lg_greatestStrain (sLg_best (sLg_strengths (sLg_shares (sLg_ints (gAL_lettingGo v0) (r3.1)) (r3.2.1)) (r3.2.2.1)) (r3.2.2.2))) (fun (r5 : Int32) => (some (r5, (r3.1), (r3.2.1), (r3.2.2.1), (r3.2.2.2))))) else (Option.bind (f_Lg_lineAt (sLg_best (sLg_strengths (sLg_shares (sLg_ints (gAL_lettingGo v0) (r3.1)) (r3.2.1)) (r3.2.2.1)) (r3.2.2.2)) p1) (fun (r6 : Int32) => (some (r6, (r3.1), (r3.2.1), (r3.2.2.1), (r3.2.2.2)))))))))))
abbrev rm_AL_order : Room := { frames := 3, cells := 0, slots := 0, locals := 70 }
set_option maxHeartbeats 4000000 in
set_option maxRecDepth 100000 in
theorem c_AL_order (l : Launch) (g : zGl) (a0 : Nat → Nat) (o0 : Nat) (v0 : tAL) (p1 : Int32) (out : Int32 × (Nat → Int32) × (Nat → Int32) × (Nat → Int32) × (Nat → Int32)) (hf : f_AL_order v0 p1 = some out) : zMi l yX10_order cX10_order 2 rm_AL_order g [.ref (a0 o0), .int p1] (w_AL g a0 o0 v0) (out.1) (w_AL g a0 o0 (sAL_lettingGo v0 (sLg_best (sLg_strengths (sLg_shares (sLg_ints (gAL_lettingGo v0) (out.2.1)) (out.2.2.1)) (out.2.2.2.1)) (out.2.2.2.2)))) := by
  refine zMi_of (lv := [(0, .ref (a0 o0)), (1, .int p1)]) (by decide) (Nat.le_of_ble_eq_true rfl) rfl (fun x hl hg C hret => ?_)
  subst hl; subst hg
  rw [f_AL_order] at hf
  refine r_aload_n C eX10_order_0 0 rfl rfl ?_
  refine r_get (v := .ref (a0 (o0 + 27))) C eX10_order_1 FX10_47 0 rfl rfl ?_
  refine r_get (v := .ref (a0 ((o0 + 27) + 1))) C eX10_order_4 FX10_187 27 rfl rfl ?_
  obtain ⟨r1, hr1, hf⟩ := zbind hf
  refine r_V_i (ws' := w_AL (z_g x) a0 o0 v0) C (c_Li_count (z_l x) (z_g x) a0 ((o0 + 27) + 1) (gSh_lines (gAL_ship v0))  r1 hr1) eX10_order_7 MX10_238 ⟨0, 1, _, _, rfl, rfl, rfl⟩ [28, 29, 30, 31, 32] rfl rfl rfl rfl rfl rfl rfl rfl rfl ?_
  refine r_if_ne C eX10_order_10 (fun c2 => ?_) (fun c2 => ?_)
  · rw [if_neg c2] at hf
    refine r_aload_n C eX10_order_16 0 rfl rfl ?_
    refine r_get (v := .ref (a0 (o0 + 69))) C eX10_order_17 FX10_83 0 rfl rfl ?_
    refine r_aload_n C eX10_order_20 0 rfl rfl ?_
    refine r_get (v := .ref (a0 (o0 + 18))) C eX10_order_21 FX10_26 0 rfl rfl ?_
    refine r_aload_n C eX10_order_24 0 rfl rfl ?_
    refine r_get (v := .ref (a0 (o0 + 27))) C eX10_order_25 FX10_47 0 rfl rfl ?_
    obtain ⟨r3, hr3, hf⟩ := zbind hf
    refine r_V_v (ws' := w_AL (z_g x) a0 o0 (sAL_lettingGo v0 (sLg_best (sLg_strengths (sLg_shares (sLg_ints (gAL_lettingGo v0) (r3.1)) (r3.2.1)) (r3.2.2.1)) (r3.2.2.2)))) C (c_Lg_weigh (z_l x) (z_g x) a0 (o0 + 69) (gAL_lettingGo v0) a0 (o0 + 18) (gAL_quay v0) a0 (o0 + 27) (gAL_ship v0)  r3 hr3) eX10_order_28 MX10_289 ⟨0, 0, _, _, rfl, rfl, rfl⟩ [69, 70, 71, 72, 18, 19, 20, 27, 28, 29, 30, 31, 32] rfl rfl rfl rfl rfl rfl rfl rfl rfl ?_
    refine r_iload_n C eX10_order_31 1 rfl rfl ?_
    refine r_iconst C (v := (-1)) eX10_order_32 (by decide) ?_
    refine r_icmp_ne C eX10_order_33 (fun c4 => ?_) (fun c4 => ?_)
    · rw [if_neg c4] at hf
      refine r_aload_n C eX10_order_46 0 rfl rfl ?_
      refine r_get (v := .ref (a0 (o0 + 69))) C eX10_order_47 FX10_83 0 rfl rfl ?_
      refine r_iload_n C eX10_order_50 1 rfl rfl ?_
      obtain ⟨r6, hr6, hf⟩ := zbind hf
      refine r_V_i (ws' := w_AL (z_g x) a0 o0 (sAL_lettingGo v0 (sLg_best (sLg_strengths (sLg_shares (sLg_ints (gAL_lettingGo v0) (r3.1)) (r3.2.1)) (r3.2.2.1)) (r3.2.2.2)))) C (c_Lg_lineAt (z_l x) (z_g x) a0 (o0 + 69) (sLg_best (sLg_strengths (sLg_shares (sLg_ints (gAL_lettingGo v0) (r3.1)) (r3.2.1)) (r3.2.2.1)) (r3.2.2.2)) p1 r6 hr6) eX10_order_51 MX10_296 ⟨0, 0, _, _, rfl, rfl, rfl⟩ [69, 70, 71, 72] rfl rfl rfl rfl rfl rfl rfl rfl rfl ?_
      obtain rfl := Option.some.inj (show some ((r6, (r3.1), (r3.2.1), (r3.2.2.1), (r3.2.2.2)) : Int32 × (Nat → Int32) × (Nat → Int32) × (Nat → Int32) × (Nat → Int32)) = some _ from hf)
      exact hret _ _ _ eX10_order_54
    · rw [if_pos c4] at hf
      refine r_aload_n C eX10_order_36 0 rfl rfl ?_
      refine r_get (v := .ref (a0 (o0 + 69))) C eX10_order_37 FX10_83 0 rfl rfl ?_
      obtain ⟨r5, hr5, hf⟩ := zbind hf
      refine r_V_i (ws' := w_AL (z_g x) a0 o0 (sAL_lettingGo v0 (sLg_best (sLg_strengths (sLg_shares (sLg_ints (gAL_lettingGo v0) (r3.1)) (r3.2.1)) (r3.2.2.1)) (r3.2.2.2)))) C (c_Lg_greatestStrain (z_l x) (z_g x) a0 (o0 + 69) (sLg_best (sLg_strengths (sLg_shares (sLg_ints (gAL_lettingGo v0) (r3.1)) (r3.2.1)) (r3.2.2.1)) (r3.2.2.2))  r5 hr5) eX10_order_40 MX10_293 ⟨0, 0, _, _, rfl, rfl, rfl⟩ [69, 70, 71, 72] rfl rfl rfl rfl rfl rfl rfl rfl rfl ?_
      refine r_goto C eX10_order_43 ?_
      obtain rfl := Option.some.inj (show some ((r5, (r3.1), (r3.2.1), (r3.2.2.1), (r3.2.2.2)) : Int32 × (Nat → Int32) × (Nat → Int32) × (Nat → Int32) × (Nat → Int32)) = some _ from hf)
      exact hret _ _ _ eX10_order_54
  · rw [if_pos c2] at hf
    refine r_ldc C (v := (-1000000003)) eX10_order_13 q801 ?_
    obtain rfl := Option.some.inj (show some (((-1000000003), (gLg_ints (gAL_lettingGo v0)), (gLg_shares (gAL_lettingGo v0)), (gLg_strengths (gAL_lettingGo v0)), (gLg_best (gAL_lettingGo v0))) : Int32 × (Nat → Int32) × (Nat → Int32) × (Nat → Int32) × (Nat → Int32)) = some _ from hf)
    exact hret _ _ _ eX10_order_15
theorem eX10_post_0 : zd 1 cX10_post 0 1 (.aload_n 0) := ⟨by decide +kernel, rfl⟩
theorem eX10_post_1 : zd 3 cX10_post 1 4 (.getfield 26) := ⟨by decide +kernel, rfl⟩
theorem eX10_post_4 : zd 1 cX10_post 4 5 (.iload_n 1) := ⟨by decide +kernel, rfl⟩
theorem eX10_post_5 : zd 3 cX10_post 5 8 (.invokevirtual 144) := ⟨by decide +kernel, rfl⟩
theorem eX10_post_8 : zdi cX10_post 8 11 14 (.ifCond .ne) := ⟨6, by decide +kernel, rfl, by decide⟩
theorem eX10_post_11 : zd 2 cX10_post 11 13 (.ldc 147) := ⟨by decide +kernel, rfl⟩
theorem eX10_post_13 : zd 1 cX10_post 13 14 (.ireturn) := ⟨by decide +kernel, rfl⟩
theorem eX10_post_14 : zd 1 cX10_post 14 15 (.iload_n 2) := ⟨by decide +kernel, rfl⟩
theorem eX10_post_15 : decode cX10_post 15 = .ok (.lookupswitch 43 #[(0, 25), (1, 34)], 25) := by decide +kernel
theorem eX10_post_40 : zd 1 cX10_post 40 41 (.aload_n 0) := ⟨by decide +kernel, rfl⟩
theorem eX10_post_41 : zd 3 cX10_post 41 44 (.getfield 26) := ⟨by decide +kernel, rfl⟩
theorem eX10_post_44 : zd 1 cX10_post 44 45 (.iload_n 1) := ⟨by decide +kernel, rfl⟩
theorem eX10_post_45 : zd 3 cX10_post 45 48 (.invokevirtual 148) := ⟨by decide +kernel, rfl⟩
theorem eX10_post_48 : zd 1 cX10_post 48 49 (.ireturn) := ⟨by decide +kernel, rfl⟩
theorem eX10_post_49 : zd 1 cX10_post 49 50 (.aload_n 0) := ⟨by decide +kernel, rfl⟩
theorem eX10_post_50 : zd 3 cX10_post 50 53 (.getfield 26) := ⟨by decide +kernel, rfl⟩
theorem eX10_post_53 : zd 1 cX10_post 53 54 (.iload_n 1) := ⟨by decide +kernel, rfl⟩
theorem eX10_post_54 : zd 3 cX10_post 54 57 (.invokevirtual 151) := ⟨by decide +kernel, rfl⟩
theorem eX10_post_57 : zd 1 cX10_post 57 58 (.ireturn) := ⟨by decide +kernel, rfl⟩
theorem eX10_post_58 : zd 2 cX10_post 58 60 (.ldc 97) := ⟨by decide +kernel, rfl⟩
theorem eX10_post_60 : zd 1 cX10_post 60 61 (.ireturn) := ⟨by decide +kernel, rfl⟩
theorem MX10_148 : zlV RX10 148 yX4_postPlace cX4_postPlace 2 ((Option.some FieldType.int)) 1 := ⟨q650, q651, q652, q4, q653, by decide, by decide, by decide +kernel⟩
theorem MX10_151 : zlV RX10 151 yX4_postStrength cX4_postStrength 2 ((Option.some FieldType.int)) 1 := ⟨q654, q655, q656, q4, q657, by decide, by decide, by decide +kernel⟩
noncomputable def f_AL_post (v0 : tAL) (p1 : Int32) (p2 : Int32) : Option (Int32) := (if (f_Qu_hasPost (gAL_quay v0) p1) = 0 then (some (-1000000001)) else (if p2 = 0 then (Option.bind (f_Qu_postPlace (gAL_quay v0) p1) (fun (r5 : Int32) => (some r5))) else (if p2 = 1 then (Option.bind (f_Qu_postStrength (gAL_quay v0) p1) (fun (r6 : Int32) => (some r6))) else (some (-1000000002)))))
abbrev rm_AL_post : Room := { frames := 1, cells := 0, slots := 0, locals := 21 }
set_option maxHeartbeats 4000000 in
set_option maxRecDepth 100000 in
theorem c_AL_post (l : Launch) (g : zGl) (a0 : Nat → Nat) (o0 : Nat) (v0 : tAL) (p1 : Int32) (p2 : Int32) (out : Int32) (hf : f_AL_post v0 p1 p2 = some out) : zMi l yX10_post cX10_post 3 rm_AL_post g [.ref (a0 o0), .int p1, .int p2] (w_AL g a0 o0 v0) out (w_AL g a0 o0 v0) := by
  refine zMi_of (lv := [(0, .ref (a0 o0)), (1, .int p1), (2, .int p2)]) (by decide) (Nat.le_of_ble_eq_true rfl) rfl (fun x hl hg C hret => ?_)
  subst hl; subst hg
  rw [f_AL_post] at hf
  refine r_aload_n C eX10_post_0 0 rfl rfl ?_
  refine r_get (v := .ref (a0 (o0 + 18))) C eX10_post_1 FX10_26 0 rfl rfl ?_
  refine r_iload_n C eX10_post_4 1 rfl rfl ?_
  refine r_V_z (ws' := w_AL (z_g x) a0 o0 v0) C (c_Qu_hasPost (z_l x) (z_g x) a0 (o0 + 18) (gAL_quay v0) p1 _ rfl) eX10_post_5 MX10_144 ⟨0, 4, _, _, rfl, rfl, rfl⟩ [18, 19, 20] rfl rfl rfl rfl rfl rfl rfl rfl rfl (fun zb1 => ?_)
  refine r_if_ne C eX10_post_8 (fun c2 => ?_) (fun c2 => ?_)
  · rw [if_neg c2] at hf
    refine r_iload_n C eX10_post_14 2 rfl rfl ?_
    by_cases c3 : p2 = 0
    · rw [if_pos c3] at hf
      refine r_lookIn C (v := 0) eX10_post_15 c3 25 40 ⟨by decide, by decide, by decide⟩ ?_
      refine r_aload_n C eX10_post_40 0 rfl rfl ?_
      refine r_get (v := .ref (a0 (o0 + 18))) C eX10_post_41 FX10_26 0 rfl rfl ?_
      refine r_iload_n C eX10_post_44 1 rfl rfl ?_
      obtain ⟨r5, hr5, hf⟩ := zbind hf
      refine r_V_i (ws' := w_AL (z_g x) a0 o0 v0) C (c_Qu_postPlace (z_l x) (z_g x) a0 (o0 + 18) (gAL_quay v0) p1 r5 hr5) eX10_post_45 MX10_148 ⟨0, 4, _, _, rfl, rfl, rfl⟩ [18, 19, 20] rfl rfl rfl rfl rfl rfl rfl rfl rfl ?_
      obtain rfl := Option.some.inj (show some (r5 : Int32) = some _ from hf)
      exact hret _ _ _ eX10_post_48
    rw [if_neg c3] at hf
    by_cases c4 : p2 = 1
    · rw [if_pos c4] at hf
      refine r_lookIn C (v := 1) eX10_post_15 c4 34 49 ⟨by decide, by decide, by decide⟩ ?_
      refine r_aload_n C eX10_post_49 0 rfl rfl ?_
      refine r_get (v := .ref (a0 (o0 + 18))) C eX10_post_50 FX10_26 0 rfl rfl ?_
      refine r_iload_n C eX10_post_53 1 rfl rfl ?_
      obtain ⟨r6, hr6, hf⟩ := zbind hf
      refine r_V_i (ws' := w_AL (z_g x) a0 o0 v0) C (c_Qu_postStrength (z_l x) (z_g x) a0 (o0 + 18) (gAL_quay v0) p1 r6 hr6) eX10_post_54 MX10_151 ⟨0, 4, _, _, rfl, rfl, rfl⟩ [18, 19, 20] rfl rfl rfl rfl rfl rfl rfl rfl rfl ?_
      obtain rfl := Option.some.inj (show some (r6 : Int32) = some _ from hf)
      exact hret _ _ _ eX10_post_57
    rw [if_neg c4] at hf
    refine r_lookOut C eX10_post_15 (by decide) ((lv_osw c3 (by decide)).trans ((lv_osw c4 (by decide)).trans (rfl))) 58 (by decide) ?_
    refine r_ldc C (v := (-1000000002)) eX10_post_58 q424 ?_
    obtain rfl := Option.some.inj (show some ((-1000000002) : Int32) = some _ from hf)
    exact hret _ _ _ eX10_post_60
  · rw [if_pos c2] at hf
    refine r_ldc C (v := (-1000000001)) eX10_post_11 q649 ?_
    obtain rfl := Option.some.inj (show some ((-1000000001) : Int32) = some _ from hf)
    exact hret _ _ _ eX10_post_13
theorem eX10_put_0 : zd 1 cX10_put 0 1 (.iload_n 1) := ⟨by decide +kernel, rfl⟩
theorem eX10_put_1 : zd 1 cX10_put 1 2 (.iload_n 2) := ⟨by decide +kernel, rfl⟩
theorem eX10_put_2 : zd 3 cX10_put 2 5 (.invokestatic 154) := ⟨by decide +kernel, rfl⟩
theorem eX10_put_5 : zdi cX10_put 5 8 11 (.ifCond .ne) := ⟨6, by decide +kernel, rfl, by decide⟩
theorem eX10_put_8 : zd 2 cX10_put 8 10 (.ldc 97) := ⟨by decide +kernel, rfl⟩
theorem eX10_put_10 : zd 1 cX10_put 10 11 (.ireturn) := ⟨by decide +kernel, rfl⟩
theorem eX10_put_11 : zd 1 cX10_put 11 12 (.aload_n 0) := ⟨by decide +kernel, rfl⟩
theorem eX10_put_12 : zd 3 cX10_put 12 15 (.getfield 47) := ⟨by decide +kernel, rfl⟩
theorem eX10_put_15 : zd 1 cX10_put 15 16 (.iload_n 1) := ⟨by decide +kernel, rfl⟩
theorem eX10_put_16 : zd 3 cX10_put 16 19 (.invokevirtual 158) := ⟨by decide +kernel, rfl⟩
theorem eX10_put_19 : zd 1 cX10_put 19 20 (.istore_n 3) := ⟨by decide +kernel, rfl⟩
theorem eX10_put_20 : zd 1 cX10_put 20 21 (.aload_n 0) := ⟨by decide +kernel, rfl⟩
theorem eX10_put_21 : zd 3 cX10_put 21 24 (.getfield 47) := ⟨by decide +kernel, rfl⟩
theorem eX10_put_24 : zd 1 cX10_put 24 25 (.iload_n 1) := ⟨by decide +kernel, rfl⟩
theorem eX10_put_25 : zd 1 cX10_put 25 26 (.iload_n 2) := ⟨by decide +kernel, rfl⟩
theorem eX10_put_26 : zd 3 cX10_put 26 29 (.invokevirtual 161) := ⟨by decide +kernel, rfl⟩
theorem eX10_put_29 : zd 1 cX10_put 29 30 (.iload_n 3) := ⟨by decide +kernel, rfl⟩
theorem eX10_put_30 : zd 1 cX10_put 30 31 (.ireturn) := ⟨by decide +kernel, rfl⟩
theorem MX10_154 : zlS RX10 154 yX7_mayBePut cX7_mayBePut 2 ((Option.some FieldType.boolean)) 2 := ⟨q662, q663, q7, q664, by decide, by decide, by decide +kernel⟩
theorem MX10_161 : zlV RX10 161 yX7_become cX7_become 3 (none) 2 := ⟨q677, q367, q368, q7, q369, by decide, by decide, by decide +kernel⟩
noncomputable def f_AL_put (v0 : tAL) (p1 : Int32) (p2 : Int32) : Option (Int32 × (Nat → Int32)) := (Option.bind (f_Sh_mayBePut p1 p2) (fun (r1 : Int32) => (if r1 = 0 then (some ((-1000000002), (gSh_ints (gAL_ship v0)))) else (Option.bind (f_Sh_reading (gAL_ship v0) p1) (fun (r4 : Int32) => (some (r4, (f_Sh_become (gAL_ship v0) p1 p2))))))))
abbrev rm_AL_put : Room := { frames := 2, cells := 0, slots := 0, locals := 43 }
set_option maxHeartbeats 4000000 in
set_option maxRecDepth 100000 in
theorem c_AL_put (l : Launch) (g : zGl) (a0 : Nat → Nat) (o0 : Nat) (v0 : tAL) (p1 : Int32) (p2 : Int32) (out : Int32 × (Nat → Int32)) (hf : f_AL_put v0 p1 p2 = some out) : zMi l yX10_put cX10_put 4 rm_AL_put g [.ref (a0 o0), .int p1, .int p2] (w_AL g a0 o0 v0) (out.1) (w_AL g a0 o0 (sAL_ship v0 (sSh_ints (gAL_ship v0) (out.2)))) := by
  refine zMi_of (lv := [(0, .ref (a0 o0)), (1, .int p1), (2, .int p2)]) (by decide) (Nat.le_of_ble_eq_true rfl) rfl (fun x hl hg C hret => ?_)
  subst hl; subst hg
  rw [f_AL_put] at hf
  refine r_iload_n C eX10_put_0 1 rfl rfl ?_
  refine r_iload_n C eX10_put_1 2 rfl rfl ?_
  obtain ⟨r1, hr1, hf⟩ := zbind hf
  refine r_S_z (ws' := w_AL (z_g x) a0 o0 v0) C (c_Sh_mayBePut (z_l x) (z_g x)  p1 p2 r1 hr1) eX10_put_2 MX10_154 [] rfl rfl rfl rfl rfl rfl rfl rfl rfl (fun zb2 => ?_)
  refine r_if_ne C eX10_put_5 (fun c3 => ?_) (fun c3 => ?_)
  · rw [if_neg c3] at hf
    refine r_aload_n C eX10_put_11 0 rfl rfl ?_
    refine r_get (v := .ref (a0 (o0 + 27))) C eX10_put_12 FX10_47 0 rfl rfl ?_
    refine r_iload_n C eX10_put_15 1 rfl rfl ?_
    obtain ⟨r4, hr4, hf⟩ := zbind hf
    refine r_V_i (ws' := w_AL (z_g x) a0 o0 v0) C (c_Sh_reading (z_l x) (z_g x) a0 (o0 + 27) (gAL_ship v0) p1 r4 hr4) eX10_put_16 MX10_158 ⟨0, 7, _, _, rfl, rfl, rfl⟩ [27, 28, 29, 30, 31, 32] rfl rfl rfl rfl rfl rfl rfl rfl rfl ?_
    refine r_istore_n C [(3, .int r4), (0, .ref (a0 o0)), (1, .int p1), (2, .int p2)] eX10_put_19 rfl (by decide) rfl ?_
    refine r_aload_n C eX10_put_20 1 rfl rfl ?_
    refine r_get (v := .ref (a0 (o0 + 27))) C eX10_put_21 FX10_47 0 rfl rfl ?_
    refine r_iload_n C eX10_put_24 2 rfl rfl ?_
    refine r_iload_n C eX10_put_25 3 rfl rfl ?_
    refine r_V_v (ws' := w_AL (z_g x) a0 o0 (sAL_ship v0 (sSh_ints (gAL_ship v0) (f_Sh_become (gAL_ship v0) p1 p2)))) C (c_Sh_become (z_l x) (z_g x) a0 (o0 + 27) (gAL_ship v0) p1 p2 _ rfl) eX10_put_26 MX10_161 ⟨0, 7, _, _, rfl, rfl, rfl⟩ [27, 28, 29, 30, 31, 32] rfl rfl rfl rfl rfl rfl rfl rfl rfl ?_
    refine r_iload_n C eX10_put_29 0 rfl rfl ?_
    obtain rfl := Option.some.inj (show some ((r4, (f_Sh_become (gAL_ship v0) p1 p2)) : Int32 × (Nat → Int32)) = some _ from hf)
    exact hret _ _ _ eX10_put_30
  · rw [if_pos c3] at hf
    refine r_ldc C (v := (-1000000002)) eX10_put_8 q424 ?_
    obtain rfl := Option.some.inj (show some (((-1000000002), (gSh_ints (gAL_ship v0))) : Int32 × (Nat → Int32)) = some _ from hf)
    exact hret _ _ _ eX10_put_10
theorem eX10_seed_0 : zd 1 cX10_seed 0 1 (.iload_n 1) := ⟨by decide +kernel, rfl⟩
theorem eX10_seed_1 : zdi cX10_seed 1 4 7 (.ifCond .ge) := ⟨6, by decide +kernel, rfl, by decide⟩
theorem eX10_seed_4 : zd 2 cX10_seed 4 6 (.ldc 97) := ⟨by decide +kernel, rfl⟩
theorem eX10_seed_6 : zd 1 cX10_seed 6 7 (.ireturn) := ⟨by decide +kernel, rfl⟩
theorem eX10_seed_7 : zd 1 cX10_seed 7 8 (.aload_n 0) := ⟨by decide +kernel, rfl⟩
theorem eX10_seed_8 : zd 3 cX10_seed 8 11 (.getfield 47) := ⟨by decide +kernel, rfl⟩
theorem eX10_seed_11 : zd 3 cX10_seed 11 14 (.getfield 316) := ⟨by decide +kernel, rfl⟩
theorem eX10_seed_14 : zd 1 cX10_seed 14 15 (.istore_n 2) := ⟨by decide +kernel, rfl⟩
theorem eX10_seed_15 : zd 1 cX10_seed 15 16 (.aload_n 0) := ⟨by decide +kernel, rfl⟩
theorem eX10_seed_16 : zd 3 cX10_seed 16 19 (.getfield 47) := ⟨by decide +kernel, rfl⟩
theorem eX10_seed_19 : zd 1 cX10_seed 19 20 (.iload_n 1) := ⟨by decide +kernel, rfl⟩
theorem eX10_seed_20 : zd 3 cX10_seed 20 23 (.putfield 316) := ⟨by decide +kernel, rfl⟩
theorem eX10_seed_23 : zd 1 cX10_seed 23 24 (.iload_n 2) := ⟨by decide +kernel, rfl⟩
theorem eX10_seed_24 : zd 1 cX10_seed 24 25 (.ireturn) := ⟨by decide +kernel, rfl⟩
theorem FX10_316 : zlF RX10 316 7 12 := ⟨(RX7, TX7, 18), rfl, by decide, q251, zin7⟩
theorem PX10_316 : zlP RX10 316 7 12 .int := ⟨(RX7, TX7, 18), tyX7, rfl, by decide, q251, zin7, tyX7_ok, nmX7, rfl, by decide +kernel⟩
noncomputable def f_AL_seed (v0 : tAL) (p1 : Int32) : Int32 × (Nat → Int32) := (if 0 ≤ p1 then (((gSh_ints (gAL_ship v0)) 12), (upd (gSh_ints (gAL_ship v0)) 12 p1)) else ((-1000000002), (gSh_ints (gAL_ship v0))))
abbrev rm_AL_seed : Room := { frames := 0, cells := 0, slots := 0, locals := 0 }
set_option maxHeartbeats 4000000 in
set_option maxRecDepth 100000 in
theorem c_AL_seed (l : Launch) (g : zGl) (a0 : Nat → Nat) (o0 : Nat) (v0 : tAL) (p1 : Int32) (out : Int32 × (Nat → Int32)) (hf : f_AL_seed v0 p1 = out) : zMi l yX10_seed cX10_seed 3 rm_AL_seed g [.ref (a0 o0), .int p1] (w_AL g a0 o0 v0) (out.1) (w_AL g a0 o0 (sAL_ship v0 (sSh_ints (gAL_ship v0) (out.2)))) := by
  refine zMi_of (lv := [(0, .ref (a0 o0)), (1, .int p1)]) (by decide) (Nat.le_of_ble_eq_true rfl) rfl (fun x hl hg C hret => ?_)
  subst hl; subst hg
  rw [f_AL_seed] at hf
  refine r_iload_n C eX10_seed_0 1 rfl rfl ?_
  refine r_if_ge C eX10_seed_1 (fun c1 => ?_) (fun c1 => ?_)
  · rw [if_pos c1] at hf
    refine r_aload_n C eX10_seed_7 0 rfl rfl ?_
    refine r_get (v := .ref (a0 (o0 + 27))) C eX10_seed_8 FX10_47 0 rfl rfl ?_
    refine r_get (v := .int ((gSh_ints (gAL_ship v0)) 12)) C eX10_seed_11 FX10_316 27 rfl rfl ?_
    refine r_istore_n C [(2, .int ((gSh_ints (gAL_ship v0)) 12)), (0, .ref (a0 o0)), (1, .int p1)] eX10_seed_14 rfl (by decide) rfl ?_
    refine r_aload_n C eX10_seed_15 1 rfl rfl ?_
    refine r_get (v := .ref (a0 (o0 + 27))) C eX10_seed_16 FX10_47 0 rfl rfl ?_
    refine r_iload_n C eX10_seed_19 2 rfl rfl ?_
    refine r_put (ws' := w_AL (z_g x) a0 o0 (sAL_ship v0 (sSh_ints (gAL_ship v0) (upd (gSh_ints (gAL_ship v0)) 12 p1)))) C eX10_seed_20 PX10_316 27 rfl rfl rfl (Nat.le_of_ble_eq_true rfl) rfl ?_
    refine r_iload_n C eX10_seed_23 0 rfl rfl ?_
    subst hf
    exact hret _ _ _ eX10_seed_24
  · rw [if_neg c1] at hf
    refine r_ldc C (v := (-1000000002)) eX10_seed_4 q424 ?_
    subst hf
    exact hret _ _ _ eX10_seed_6
theorem eX10_tended_0 : zd 1 cX10_tended 0 1 (.aload_n 0) := ⟨by decide +kernel, rfl⟩
theorem eX10_tended_1 : zd 3 cX10_tended 1 4 (.getfield 47) := ⟨by decide +kernel, rfl⟩
theorem eX10_tended_4 : zd 3 cX10_tended 4 7 (.getfield 187) := ⟨by decide +kernel, rfl⟩
theorem eX10_tended_7 : zd 1 cX10_tended 7 8 (.iload_n 1) := ⟨by decide +kernel, rfl⟩
theorem eX10_tended_8 : zd 3 cX10_tended 8 11 (.invokevirtual 191) := ⟨by decide +kernel, rfl⟩
theorem eX10_tended_11 : zdi cX10_tended 11 14 17 (.ifCond .ne) := ⟨6, by decide +kernel, rfl, by decide⟩
theorem eX10_tended_14 : zd 2 cX10_tended 14 16 (.ldc 147) := ⟨by decide +kernel, rfl⟩
theorem eX10_tended_16 : zd 1 cX10_tended 16 17 (.ireturn) := ⟨by decide +kernel, rfl⟩
theorem eX10_tended_17 : zd 1 cX10_tended 17 18 (.iload_n 2) := ⟨by decide +kernel, rfl⟩
theorem eX10_tended_18 : zd 3 cX10_tended 18 21 (.invokestatic 265) := ⟨by decide +kernel, rfl⟩
theorem eX10_tended_21 : zdi cX10_tended 21 24 27 (.ifCond .ne) := ⟨6, by decide +kernel, rfl, by decide⟩
theorem eX10_tended_24 : zd 2 cX10_tended 24 26 (.ldc 97) := ⟨by decide +kernel, rfl⟩
theorem eX10_tended_26 : zd 1 cX10_tended 26 27 (.ireturn) := ⟨by decide +kernel, rfl⟩
theorem eX10_tended_27 : zd 1 cX10_tended 27 28 (.aload_n 0) := ⟨by decide +kernel, rfl⟩
theorem eX10_tended_28 : zd 3 cX10_tended 28 31 (.getfield 76) := ⟨by decide +kernel, rfl⟩
theorem eX10_tended_31 : zd 1 cX10_tended 31 32 (.aload_n 0) := ⟨by decide +kernel, rfl⟩
theorem eX10_tended_32 : zd 3 cX10_tended 32 35 (.getfield 40) := ⟨by decide +kernel, rfl⟩
theorem eX10_tended_35 : zd 1 cX10_tended 35 36 (.aload_n 0) := ⟨by decide +kernel, rfl⟩
theorem eX10_tended_36 : zd 3 cX10_tended 36 39 (.getfield 47) := ⟨by decide +kernel, rfl⟩
theorem eX10_tended_39 : zd 1 cX10_tended 39 40 (.aload_n 0) := ⟨by decide +kernel, rfl⟩
theorem eX10_tended_40 : zd 3 cX10_tended 40 43 (.getfield 26) := ⟨by decide +kernel, rfl⟩
theorem eX10_tended_43 : zd 1 cX10_tended 43 44 (.iload_n 1) := ⟨by decide +kernel, rfl⟩
theorem eX10_tended_44 : zd 3 cX10_tended 44 47 (.invokevirtual 268) := ⟨by decide +kernel, rfl⟩
theorem eX10_tended_47 : zd 1 cX10_tended 47 48 (.iload_n 2) := ⟨by decide +kernel, rfl⟩
theorem eX10_tended_48 : zd 3 cX10_tended 48 51 (.invokevirtual 278) := ⟨by decide +kernel, rfl⟩
theorem eX10_tended_51 : zd 1 cX10_tended 51 52 (.iload_n 3) := ⟨by decide +kernel, rfl⟩
theorem eX10_tended_52 : zd 1 cX10_tended 52 53 (.iconst (-1)) := ⟨by decide +kernel, rfl⟩
theorem eX10_tended_53 : zdi cX10_tended 53 56 66 (.if_icmp .ne) := ⟨13, by decide +kernel, rfl, by decide⟩
theorem eX10_tended_56 : zd 1 cX10_tended 56 57 (.aload_n 0) := ⟨by decide +kernel, rfl⟩
theorem eX10_tended_57 : zd 3 cX10_tended 57 60 (.getfield 76) := ⟨by decide +kernel, rfl⟩
theorem eX10_tended_60 : zd 3 cX10_tended 60 63 (.getfield 282) := ⟨by decide +kernel, rfl⟩
theorem eX10_tended_63 : zdi cX10_tended 63 66 74 (.goto) := ⟨11, by decide +kernel, rfl, by decide⟩
theorem eX10_tended_66 : zd 1 cX10_tended 66 67 (.aload_n 0) := ⟨by decide +kernel, rfl⟩
theorem eX10_tended_67 : zd 3 cX10_tended 67 70 (.getfield 76) := ⟨by decide +kernel, rfl⟩
theorem eX10_tended_70 : zd 1 cX10_tended 70 71 (.iload_n 3) := ⟨by decide +kernel, rfl⟩
theorem eX10_tended_71 : zd 3 cX10_tended 71 74 (.invokevirtual 283) := ⟨by decide +kernel, rfl⟩
theorem eX10_tended_74 : zd 1 cX10_tended 74 75 (.ireturn) := ⟨by decide +kernel, rfl⟩
theorem FX10_76 : zlF RX10 76 10 11 := ⟨(RX10, TX10, 15), rfl, by decide, q385, zin10⟩
theorem FX10_282 : zlF RX10 282 2 0 := ⟨(RX2, TX2, 2), rfl, by decide, q326, zin2⟩
theorem MX10_278 : zlV RX10 278 yX2_tend cX2_tend 8 (none) 3 := ⟨q972, q973, q974, q10, q975, by decide, by decide, by decide +kernel⟩
theorem MX10_283 : zlV RX10 283 yX2_hourOf cX2_hourOf 2 ((Option.some FieldType.int)) 1 := ⟨q980, q981, q982, q10, q983, by decide, by decide, by decide +kernel⟩
noncomputable def f_AL_tended (v0 : tAL) (p1 : Int32) (p2 : Int32) (p3 : Int32) : Option (Int32 × (Nat → Int32) × (Nat → Int32)) := (Option.bind (f_Li_isFast (gSh_lines (gAL_ship v0)) p1) (fun (r1 : Int32) => (if r1 = 0 then (some ((-1000000001), (gNi_ints (gAL_night v0)), (gNi_hours (gAL_night v0)))) else (if (f_Ni_isDeck p2) = 0 then (some ((-1000000002), (gNi_ints (gAL_night v0)), (gNi_hours (gAL_night v0)))) else (Option.bind (f_Sh_lineAlong (gAL_ship v0) (gAL_quay v0) p1) (fun (r6 : Int32) => (Option.bind (f_Ni_tend (gAL_night v0) (gAL_tide v0) r6 p2) (fun (r7 : (Nat → Int32) × (Nat → Int32)) => (if p3 = (-1) then (some (((r7.1) 0), (r7.1), (r7.2))) else (Option.bind (f_Ni_hourOf (sNi_hours (sNi_ints (gAL_night v0) (r7.1)) (r7.2)) p3) (fun (r9 : Int32) => (some (r9, (r7.1), (r7.2))))))))))))))
abbrev rm_AL_tended : Room := { frames := 4, cells := 0, slots := 0, locals := 98 }
set_option maxHeartbeats 4000000 in
set_option maxRecDepth 100000 in
theorem c_AL_tended (l : Launch) (g : zGl) (a0 : Nat → Nat) (o0 : Nat) (v0 : tAL) (p1 : Int32) (p2 : Int32) (p3 : Int32) (out : Int32 × (Nat → Int32) × (Nat → Int32)) (hf : f_AL_tended v0 p1 p2 p3 = some out) : zMi l yX10_tended cX10_tended 4 rm_AL_tended g [.ref (a0 o0), .int p1, .int p2, .int p3] (w_AL g a0 o0 v0) (out.1) (w_AL g a0 o0 (sAL_night v0 (sNi_hours (sNi_ints (gAL_night v0) (out.2.1)) (out.2.2)))) := by
  refine zMi_of (lv := [(0, .ref (a0 o0)), (1, .int p1), (2, .int p2), (3, .int p3)]) (by decide) (Nat.le_of_ble_eq_true rfl) rfl (fun x hl hg C hret => ?_)
  subst hl; subst hg
  rw [f_AL_tended] at hf
  refine r_aload_n C eX10_tended_0 0 rfl rfl ?_
  refine r_get (v := .ref (a0 (o0 + 27))) C eX10_tended_1 FX10_47 0 rfl rfl ?_
  refine r_get (v := .ref (a0 ((o0 + 27) + 1))) C eX10_tended_4 FX10_187 27 rfl rfl ?_
  refine r_iload_n C eX10_tended_7 1 rfl rfl ?_
  obtain ⟨r1, hr1, hf⟩ := zbind hf
  refine r_V_z (ws' := w_AL (z_g x) a0 o0 v0) C (c_Li_isFast (z_l x) (z_g x) a0 ((o0 + 27) + 1) (gSh_lines (gAL_ship v0)) p1 r1 hr1) eX10_tended_8 MX10_191 ⟨0, 1, _, _, rfl, rfl, rfl⟩ [28, 29, 30, 31, 32] rfl rfl rfl rfl rfl rfl rfl rfl rfl (fun zb2 => ?_)
  refine r_if_ne C eX10_tended_11 (fun c3 => ?_) (fun c3 => ?_)
  · rw [if_neg c3] at hf
    refine r_iload_n C eX10_tended_17 2 rfl rfl ?_
    refine r_S_z (ws' := w_AL (z_g x) a0 o0 v0) C (c_Ni_isDeck (z_l x) (z_g x)  p2 _ rfl) eX10_tended_18 MX10_265 [] rfl rfl rfl rfl rfl rfl rfl rfl rfl (fun zb4 => ?_)
    refine r_if_ne C eX10_tended_21 (fun c5 => ?_) (fun c5 => ?_)
    · rw [if_neg c5] at hf
      refine r_aload_n C eX10_tended_27 0 rfl rfl ?_
      refine r_get (v := .ref (a0 (o0 + 67))) C eX10_tended_28 FX10_76 0 rfl rfl ?_
      refine r_aload_n C eX10_tended_31 0 rfl rfl ?_
      refine r_get (v := .ref (a0 (o0 + 25))) C eX10_tended_32 FX10_40 0 rfl rfl ?_
      refine r_aload_n C eX10_tended_35 0 rfl rfl ?_
      refine r_get (v := .ref (a0 (o0 + 27))) C eX10_tended_36 FX10_47 0 rfl rfl ?_
      refine r_aload_n C eX10_tended_39 0 rfl rfl ?_
      refine r_get (v := .ref (a0 (o0 + 18))) C eX10_tended_40 FX10_26 0 rfl rfl ?_
      refine r_iload_n C eX10_tended_43 1 rfl rfl ?_
      obtain ⟨r6, hr6, hf⟩ := zbind hf
      refine r_V_i (ws' := w_AL (z_g x) a0 o0 v0) C (c_Sh_lineAlong (z_l x) (z_g x) a0 (o0 + 27) (gAL_ship v0) a0 (o0 + 18) (gAL_quay v0) p1 r6 hr6) eX10_tended_44 MX10_268 ⟨0, 7, _, _, rfl, rfl, rfl⟩ [27, 28, 29, 30, 31, 32, 18, 19, 20] rfl rfl rfl rfl rfl rfl rfl rfl rfl ?_
      refine r_iload_n C eX10_tended_47 2 rfl rfl ?_
      obtain ⟨r7, hr7, hf⟩ := zbind hf
      refine r_V_v (ws' := w_AL (z_g x) a0 o0 (sAL_night v0 (sNi_hours (sNi_ints (gAL_night v0) (r7.1)) (r7.2)))) C (c_Ni_tend (z_l x) (z_g x) a0 (o0 + 67) (gAL_night v0) a0 (o0 + 25) (gAL_tide v0) r6 p2 r7 hr7) eX10_tended_48 MX10_278 ⟨0, 2, _, _, rfl, rfl, rfl⟩ [67, 68, 25, 26] rfl rfl rfl rfl rfl rfl rfl rfl rfl ?_
      refine r_iload_n C eX10_tended_51 3 rfl rfl ?_
      refine r_iconst C (v := (-1)) eX10_tended_52 (by decide) ?_
      refine r_icmp_ne C eX10_tended_53 (fun c8 => ?_) (fun c8 => ?_)
      · rw [if_neg c8] at hf
        refine r_aload_n C eX10_tended_66 0 rfl rfl ?_
        refine r_get (v := .ref (a0 (o0 + 67))) C eX10_tended_67 FX10_76 0 rfl rfl ?_
        refine r_iload_n C eX10_tended_70 3 rfl rfl ?_
        obtain ⟨r9, hr9, hf⟩ := zbind hf
        refine r_V_i (ws' := w_AL (z_g x) a0 o0 (sAL_night v0 (sNi_hours (sNi_ints (gAL_night v0) (r7.1)) (r7.2)))) C (c_Ni_hourOf (z_l x) (z_g x) a0 (o0 + 67) (sNi_hours (sNi_ints (gAL_night v0) (r7.1)) (r7.2)) p3 r9 hr9) eX10_tended_71 MX10_283 ⟨0, 2, _, _, rfl, rfl, rfl⟩ [67, 68] rfl rfl rfl rfl rfl rfl rfl rfl rfl ?_
        obtain rfl := Option.some.inj (show some ((r9, (r7.1), (r7.2)) : Int32 × (Nat → Int32) × (Nat → Int32)) = some _ from hf)
        exact hret _ _ _ eX10_tended_74
      · rw [if_pos c8] at hf
        refine r_aload_n C eX10_tended_56 0 rfl rfl ?_
        refine r_get (v := .ref (a0 (o0 + 67))) C eX10_tended_57 FX10_76 0 rfl rfl ?_
        refine r_get (v := .int ((r7.1) 0)) C eX10_tended_60 FX10_282 67 rfl rfl ?_
        refine r_goto C eX10_tended_63 ?_
        obtain rfl := Option.some.inj (show some ((((r7.1) 0), (r7.1), (r7.2)) : Int32 × (Nat → Int32) × (Nat → Int32)) = some _ from hf)
        exact hret _ _ _ eX10_tended_74
    · rw [if_pos c5] at hf
      refine r_ldc C (v := (-1000000002)) eX10_tended_24 q424 ?_
      obtain rfl := Option.some.inj (show some (((-1000000002), (gNi_ints (gAL_night v0)), (gNi_hours (gAL_night v0))) : Int32 × (Nat → Int32) × (Nat → Int32)) = some _ from hf)
      exact hret _ _ _ eX10_tended_26
  · rw [if_pos c3] at hf
    refine r_ldc C (v := (-1000000001)) eX10_tended_14 q649 ?_
    obtain rfl := Option.some.inj (show some (((-1000000001), (gNi_ints (gAL_night v0)), (gNi_hours (gAL_night v0))) : Int32 × (Nat → Int32) × (Nat → Int32)) = some _ from hf)
    exact hret _ _ _ eX10_tended_16
theorem eX10_told_0 : zd 1 cX10_told 0 1 (.iload_n 1) := ⟨by decide +kernel, rfl⟩
theorem eX10_told_1 : zdi cX10_told 1 4 19 (.ifCond .lt) := ⟨18, by decide +kernel, rfl, by decide⟩
theorem eX10_told_4 : zd 1 cX10_told 4 5 (.iload_n 1) := ⟨by decide +kernel, rfl⟩
theorem eX10_told_5 : zd 2 cX10_told 5 7 (.bipush 13) := ⟨by decide +kernel, rfl⟩
theorem eX10_told_7 : zdi cX10_told 7 10 19 (.if_icmp .ge) := ⟨12, by decide +kernel, rfl, by decide⟩
theorem eX10_told_10 : zd 1 cX10_told 10 11 (.aload_n 0) := ⟨by decide +kernel, rfl⟩
theorem eX10_told_11 : zd 3 cX10_told 11 14 (.getfield 26) := ⟨by decide +kernel, rfl⟩
theorem eX10_told_14 : zd 1 cX10_told 14 15 (.iload_n 1) := ⟨by decide +kernel, rfl⟩
theorem eX10_told_15 : zd 3 cX10_told 15 18 (.invokevirtual 140) := ⟨by decide +kernel, rfl⟩
theorem eX10_told_18 : zd 1 cX10_told 18 19 (.ireturn) := ⟨by decide +kernel, rfl⟩
theorem eX10_told_19 : zd 1 cX10_told 19 20 (.iload_n 1) := ⟨by decide +kernel, rfl⟩
theorem eX10_told_20 : decode cX10_told 20 = .ok (.tableswitch 64 13 16 #[32, 40, 48, 56], 32) := by decide +kernel
theorem eX10_told_52 : zd 1 cX10_told 52 53 (.aload_n 0) := ⟨by decide +kernel, rfl⟩
theorem eX10_told_53 : zd 3 cX10_told 53 56 (.getfield 26) := ⟨by decide +kernel, rfl⟩
theorem eX10_told_56 : zd 3 cX10_told 56 59 (.getfield 123) := ⟨by decide +kernel, rfl⟩
theorem eX10_told_59 : zd 1 cX10_told 59 60 (.ireturn) := ⟨by decide +kernel, rfl⟩
theorem eX10_told_60 : zd 1 cX10_told 60 61 (.aload_n 0) := ⟨by decide +kernel, rfl⟩
theorem eX10_told_61 : zd 3 cX10_told 61 64 (.getfield 33) := ⟨by decide +kernel, rfl⟩
theorem eX10_told_64 : zd 3 cX10_told 64 67 (.getfield 132) := ⟨by decide +kernel, rfl⟩
theorem eX10_told_67 : zd 1 cX10_told 67 68 (.ireturn) := ⟨by decide +kernel, rfl⟩
theorem eX10_told_68 : zd 1 cX10_told 68 69 (.aload_n 0) := ⟨by decide +kernel, rfl⟩
theorem eX10_told_69 : zd 3 cX10_told 69 72 (.getfield 40) := ⟨by decide +kernel, rfl⟩
theorem eX10_told_72 : zd 3 cX10_told 72 75 (.getfield 139) := ⟨by decide +kernel, rfl⟩
theorem eX10_told_75 : zd 1 cX10_told 75 76 (.ireturn) := ⟨by decide +kernel, rfl⟩
theorem eX10_told_76 : zd 1 cX10_told 76 77 (.aload_n 0) := ⟨by decide +kernel, rfl⟩
theorem eX10_told_77 : zd 3 cX10_told 77 80 (.getfield 10) := ⟨by decide +kernel, rfl⟩
theorem eX10_told_80 : zd 3 cX10_told 80 83 (.getfield 98) := ⟨by decide +kernel, rfl⟩
theorem eX10_told_83 : zd 1 cX10_told 83 84 (.ireturn) := ⟨by decide +kernel, rfl⟩
theorem eX10_told_84 : zd 2 cX10_told 84 86 (.ldc 97) := ⟨by decide +kernel, rfl⟩
theorem eX10_told_86 : zd 1 cX10_told 86 87 (.ireturn) := ⟨by decide +kernel, rfl⟩
theorem FX10_123 : zlF RX10 123 4 13 := ⟨(RX4, TX4, 16), rfl, by decide, q86, zin4⟩
theorem FX10_132 : zlF RX10 132 3 0 := ⟨(RX3, TX3, 4), rfl, by decide, q130, zin3⟩
theorem FX10_139 : zlF RX10 139 9 0 := ⟨(RX9, TX9, 2), rfl, by decide, q152, zin9⟩
theorem MX10_140 : zlV RX10 140 yX4_number cX4_number 2 ((Option.some FieldType.int)) 1 := ⟨q640, q603, q604, q4, q605, by decide, by decide, by decide +kernel⟩
noncomputable def f_AL_told (v0 : tAL) (p1 : Int32) : Int32 := (if p1 < 0 then (if p1 = 13 then ((gQu_ints (gAL_quay v0)) 13) else (if p1 = 14 then ((gPl_ints (gAL_plan v0)) 0) else (if p1 = 15 then ((gTi_ints (gAL_tide v0)) 0) else (if p1 = 16 then ((gTe_ints (gAL_text v0)) 1) else (-1000000002))))) else (if 13 ≤ p1 then (if p1 = 13 then ((gQu_ints (gAL_quay v0)) 13) else (if p1 = 14 then ((gPl_ints (gAL_plan v0)) 0) else (if p1 = 15 then ((gTi_ints (gAL_tide v0)) 0) else (if p1 = 16 then ((gTe_ints (gAL_text v0)) 1) else (-1000000002))))) else (f_Qu_number (gAL_quay v0) p1)))
abbrev rm_AL_told : Room := { frames := 1, cells := 0, slots := 0, locals := 21 }
set_option maxHeartbeats 4000000 in
set_option maxRecDepth 100000 in
theorem c_AL_told (l : Launch) (g : zGl) (a0 : Nat → Nat) (o0 : Nat) (v0 : tAL) (p1 : Int32) (out : Int32) (hf : f_AL_told v0 p1 = out) : zMi l yX10_told cX10_told 2 rm_AL_told g [.ref (a0 o0), .int p1] (w_AL g a0 o0 v0) out (w_AL g a0 o0 v0) := by
  refine zMi_of (lv := [(0, .ref (a0 o0)), (1, .int p1)]) (by decide) (Nat.le_of_ble_eq_true rfl) rfl (fun x hl hg C hret => ?_)
  subst hl; subst hg
  rw [f_AL_told] at hf
  refine r_iload_n C eX10_told_0 1 rfl rfl ?_
  refine r_if_lt C eX10_told_1 (fun c1 => ?_) (fun c1 => ?_)
  · rw [if_pos c1] at hf
    refine r_iload_n C eX10_told_19 1 rfl rfl ?_
    by_cases c2 : p1 = 13
    · rw [if_pos c2] at hf
      refine r_tabIn C (v := 13) eX10_told_20 c2 32 52 ⟨by decide, rfl, by decide⟩ ?_
      refine r_aload_n C eX10_told_52 0 rfl rfl ?_
      refine r_get (v := .ref (a0 (o0 + 18))) C eX10_told_53 FX10_26 0 rfl rfl ?_
      refine r_get (v := .int ((gQu_ints (gAL_quay v0)) 13)) C eX10_told_56 FX10_123 18 rfl rfl ?_
      subst hf
      exact hret _ _ _ eX10_told_59
    rw [if_neg c2] at hf
    by_cases c3 : p1 = 14
    · rw [if_pos c3] at hf
      refine r_tabIn C (v := 14) eX10_told_20 c3 40 60 ⟨by decide, rfl, by decide⟩ ?_
      refine r_aload_n C eX10_told_60 0 rfl rfl ?_
      refine r_get (v := .ref (a0 (o0 + 21))) C eX10_told_61 FX10_33 0 rfl rfl ?_
      refine r_get (v := .int ((gPl_ints (gAL_plan v0)) 0)) C eX10_told_64 FX10_132 21 rfl rfl ?_
      subst hf
      exact hret _ _ _ eX10_told_67
    rw [if_neg c3] at hf
    by_cases c4 : p1 = 15
    · rw [if_pos c4] at hf
      refine r_tabIn C (v := 15) eX10_told_20 c4 48 68 ⟨by decide, rfl, by decide⟩ ?_
      refine r_aload_n C eX10_told_68 0 rfl rfl ?_
      refine r_get (v := .ref (a0 (o0 + 25))) C eX10_told_69 FX10_40 0 rfl rfl ?_
      refine r_get (v := .int ((gTi_ints (gAL_tide v0)) 0)) C eX10_told_72 FX10_139 25 rfl rfl ?_
      subst hf
      exact hret _ _ _ eX10_told_75
    rw [if_neg c4] at hf
    by_cases c5 : p1 = 16
    · rw [if_pos c5] at hf
      refine r_tabIn C (v := 16) eX10_told_20 c5 56 76 ⟨by decide, rfl, by decide⟩ ?_
      refine r_aload_n C eX10_told_76 0 rfl rfl ?_
      refine r_get (v := .ref (a0 (o0 + 4))) C eX10_told_77 FX10_10 0 rfl rfl ?_
      refine r_get (v := .int ((gTe_ints (gAL_text v0)) 1)) C eX10_told_80 FX10_98 4 rfl rfl ?_
      subst hf
      exact hret _ _ _ eX10_told_83
    rw [if_neg c5] at hf
    refine r_tabOut C eX10_told_20 (fun i h1 h2 => by rcases (show i = 13 ∨ i = 14 ∨ i = 15 ∨ i = 16 by omega) with rfl | rfl | rfl | rfl <;> assumption) 84 (by decide) ?_
    refine r_ldc C (v := (-1000000002)) eX10_told_84 q424 ?_
    subst hf
    exact hret _ _ _ eX10_told_86
  · rw [if_neg c1] at hf
    refine r_iload_n C eX10_told_4 1 rfl rfl ?_
    refine r_bipush C (v := 13) eX10_told_5 (by decide) ?_
    refine r_icmp_ge C eX10_told_7 (fun c6 => ?_) (fun c6 => ?_)
    · rw [if_pos c6] at hf
      refine r_iload_n C eX10_told_19 1 rfl rfl ?_
      by_cases c7 : p1 = 13
      · rw [if_pos c7] at hf
        refine r_tabIn C (v := 13) eX10_told_20 c7 32 52 ⟨by decide, rfl, by decide⟩ ?_
        refine r_aload_n C eX10_told_52 0 rfl rfl ?_
        refine r_get (v := .ref (a0 (o0 + 18))) C eX10_told_53 FX10_26 0 rfl rfl ?_
        refine r_get (v := .int ((gQu_ints (gAL_quay v0)) 13)) C eX10_told_56 FX10_123 18 rfl rfl ?_
        subst hf
        exact hret _ _ _ eX10_told_59
      rw [if_neg c7] at hf
      by_cases c8 : p1 = 14
      · rw [if_pos c8] at hf
        refine r_tabIn C (v := 14) eX10_told_20 c8 40 60 ⟨by decide, rfl, by decide⟩ ?_
        refine r_aload_n C eX10_told_60 0 rfl rfl ?_
        refine r_get (v := .ref (a0 (o0 + 21))) C eX10_told_61 FX10_33 0 rfl rfl ?_
        refine r_get (v := .int ((gPl_ints (gAL_plan v0)) 0)) C eX10_told_64 FX10_132 21 rfl rfl ?_
        subst hf
        exact hret _ _ _ eX10_told_67
      rw [if_neg c8] at hf
      by_cases c9 : p1 = 15
      · rw [if_pos c9] at hf
        refine r_tabIn C (v := 15) eX10_told_20 c9 48 68 ⟨by decide, rfl, by decide⟩ ?_
        refine r_aload_n C eX10_told_68 0 rfl rfl ?_
        refine r_get (v := .ref (a0 (o0 + 25))) C eX10_told_69 FX10_40 0 rfl rfl ?_
        refine r_get (v := .int ((gTi_ints (gAL_tide v0)) 0)) C eX10_told_72 FX10_139 25 rfl rfl ?_
        subst hf
        exact hret _ _ _ eX10_told_75
      rw [if_neg c9] at hf
      by_cases c10 : p1 = 16
      · rw [if_pos c10] at hf
        refine r_tabIn C (v := 16) eX10_told_20 c10 56 76 ⟨by decide, rfl, by decide⟩ ?_
        refine r_aload_n C eX10_told_76 0 rfl rfl ?_
        refine r_get (v := .ref (a0 (o0 + 4))) C eX10_told_77 FX10_10 0 rfl rfl ?_
        refine r_get (v := .int ((gTe_ints (gAL_text v0)) 1)) C eX10_told_80 FX10_98 4 rfl rfl ?_
        subst hf
        exact hret _ _ _ eX10_told_83
      rw [if_neg c10] at hf
      refine r_tabOut C eX10_told_20 (fun i h1 h2 => by rcases (show i = 13 ∨ i = 14 ∨ i = 15 ∨ i = 16 by omega) with rfl | rfl | rfl | rfl <;> assumption) 84 (by decide) ?_
      refine r_ldc C (v := (-1000000002)) eX10_told_84 q424 ?_
      subst hf
      exact hret _ _ _ eX10_told_86
    · rw [if_neg c6] at hf
      refine r_aload_n C eX10_told_10 0 rfl rfl ?_
      refine r_get (v := .ref (a0 (o0 + 18))) C eX10_told_11 FX10_26 0 rfl rfl ?_
      refine r_iload_n C eX10_told_14 1 rfl rfl ?_
      refine r_V_i (ws' := w_AL (z_g x) a0 o0 v0) C (c_Qu_number (z_l x) (z_g x) a0 (o0 + 18) (gAL_quay v0) p1 _ rfl) eX10_told_15 MX10_140 ⟨0, 4, _, _, rfl, rfl, rfl⟩ [18, 19, 20] rfl rfl rfl rfl rfl rfl rfl rfl rfl ?_
      subst hf
      exact hret _ _ _ eX10_told_18
theorem eX10_tried_0 : zd 1 cX10_tried 0 1 (.iload_n 1) := ⟨by decide +kernel, rfl⟩
theorem eX10_tried_1 : zd 1 cX10_tried 1 2 (.iconst 1) := ⟨by decide +kernel, rfl⟩
theorem eX10_tried_2 : zdi cX10_tried 2 5 19 (.if_icmp .lt) := ⟨17, by decide +kernel, rfl, by decide⟩
theorem eX10_tried_5 : zd 1 cX10_tried 5 6 (.iload_n 1) := ⟨by decide +kernel, rfl⟩
theorem eX10_tried_6 : zd 3 cX10_tried 6 9 (.sipush 600) := ⟨by decide +kernel, rfl⟩
theorem eX10_tried_9 : zdi cX10_tried 9 12 19 (.if_icmp .gt) := ⟨10, by decide +kernel, rfl, by decide⟩
theorem eX10_tried_12 : zd 1 cX10_tried 12 13 (.iload_n 2) := ⟨by decide +kernel, rfl⟩
theorem eX10_tried_13 : zd 3 cX10_tried 13 16 (.invokestatic 232) := ⟨by decide +kernel, rfl⟩
theorem eX10_tried_16 : zdi cX10_tried 16 19 23 (.ifCond .ne) := ⟨7, by decide +kernel, rfl, by decide⟩
theorem eX10_tried_19 : zd 3 cX10_tried 19 22 (.ldc2_w 165) := ⟨by decide +kernel, rfl⟩
theorem eX10_tried_22 : zd 1 cX10_tried 22 23 (.lreturn) := ⟨by decide +kernel, rfl⟩
theorem eX10_tried_23 : zd 1 cX10_tried 23 24 (.aload_n 0) := ⟨by decide +kernel, rfl⟩
theorem eX10_tried_24 : zd 3 cX10_tried 24 27 (.getfield 63) := ⟨by decide +kernel, rfl⟩
theorem eX10_tried_27 : zd 1 cX10_tried 27 28 (.aload_n 0) := ⟨by decide +kernel, rfl⟩
theorem eX10_tried_28 : zd 3 cX10_tried 28 31 (.getfield 47) := ⟨by decide +kernel, rfl⟩
theorem eX10_tried_31 : zd 3 cX10_tried 31 34 (.invokevirtual 235) := ⟨by decide +kernel, rfl⟩
theorem eX10_tried_34 : zd 1 cX10_tried 34 35 (.aload_n 0) := ⟨by decide +kernel, rfl⟩
theorem eX10_tried_35 : zd 3 cX10_tried 35 38 (.getfield 63) := ⟨by decide +kernel, rfl⟩
theorem eX10_tried_38 : zd 1 cX10_tried 38 39 (.aload_n 0) := ⟨by decide +kernel, rfl⟩
theorem eX10_tried_39 : zd 3 cX10_tried 39 42 (.getfield 26) := ⟨by decide +kernel, rfl⟩
theorem eX10_tried_42 : zd 1 cX10_tried 42 43 (.aload_n 0) := ⟨by decide +kernel, rfl⟩
theorem eX10_tried_43 : zd 3 cX10_tried 43 46 (.getfield 33) := ⟨by decide +kernel, rfl⟩
theorem eX10_tried_46 : zd 1 cX10_tried 46 47 (.iload_n 1) := ⟨by decide +kernel, rfl⟩
theorem eX10_tried_47 : zd 3 cX10_tried 47 50 (.invokevirtual 175) := ⟨by decide +kernel, rfl⟩
theorem eX10_tried_50 : zd 1 cX10_tried 50 51 (.pop) := ⟨by decide +kernel, rfl⟩
theorem eX10_tried_51 : zd 1 cX10_tried 51 52 (.iload_n 2) := ⟨by decide +kernel, rfl⟩
theorem eX10_tried_52 : zd 2 cX10_tried 52 54 (.bipush 17) := ⟨by decide +kernel, rfl⟩
theorem eX10_tried_54 : zdi cX10_tried 54 57 71 (.if_icmp .ne) := ⟨17, by decide +kernel, rfl, by decide⟩
theorem eX10_tried_57 : zd 1 cX10_tried 57 58 (.aload_n 0) := ⟨by decide +kernel, rfl⟩
theorem eX10_tried_58 : zd 3 cX10_tried 58 61 (.getfield 63) := ⟨by decide +kernel, rfl⟩
theorem eX10_tried_61 : zd 3 cX10_tried 61 64 (.getfield 187) := ⟨by decide +kernel, rfl⟩
theorem eX10_tried_64 : zd 3 cX10_tried 64 67 (.invokevirtual 238) := ⟨by decide +kernel, rfl⟩
theorem eX10_tried_67 : zd 1 cX10_tried 67 68 (.i2l) := ⟨by decide +kernel, rfl⟩
theorem eX10_tried_68 : zdi cX10_tried 68 71 80 (.goto) := ⟨12, by decide +kernel, rfl, by decide⟩
theorem eX10_tried_71 : zd 1 cX10_tried 71 72 (.aload_n 0) := ⟨by decide +kernel, rfl⟩
theorem eX10_tried_72 : zd 1 cX10_tried 72 73 (.aload_n 0) := ⟨by decide +kernel, rfl⟩
theorem eX10_tried_73 : zd 3 cX10_tried 73 76 (.getfield 63) := ⟨by decide +kernel, rfl⟩
theorem eX10_tried_76 : zd 1 cX10_tried 76 77 (.iload_n 2) := ⟨by decide +kernel, rfl⟩
theorem eX10_tried_77 : zd 3 cX10_tried 77 80 (.invokevirtual 167) := ⟨by decide +kernel, rfl⟩
theorem eX10_tried_80 : zd 1 cX10_tried 80 81 (.lreturn) := ⟨by decide +kernel, rfl⟩
theorem MX10_232 : zlS RX10 232 yX10_isTriedReading cX10_isTriedReading 1 ((Option.some FieldType.boolean)) 1 := ⟨q871, q872, q1, q873, by decide, by decide, by decide +kernel⟩
noncomputable def f_AL_tried (v0 : tAL) (p1 : Int32) (p2 : Int32) : Option (Int64 × (Nat → Int32) × Int64 × (Nat → Int32) × (Nat → Int32) × (Nat → Int32) × (Nat → Int32)) := (if p1 < 1 then (some ((-1000000002), (gSh_ints (gAL_trial v0)), (gSh_harm (gAL_trial v0)), (gLi_fast (gSh_lines (gAL_trial v0))), (gLi_place (gSh_lines (gAL_trial v0))), (gLi_post (gSh_lines (gAL_trial v0))), (gLi_length (gSh_lines (gAL_trial v0))))) else (if 600 < p1 then (some ((-1000000002), (gSh_ints (gAL_trial v0)), (gSh_harm (gAL_trial v0)), (gLi_fast (gSh_lines (gAL_trial v0))), (gLi_place (gSh_lines (gAL_trial v0))), (gLi_post (gSh_lines (gAL_trial v0))), (gLi_length (gSh_lines (gAL_trial v0))))) else (if (f_AL_isTriedReading p2) = 0 then (some ((-1000000002), (gSh_ints (gAL_trial v0)), (gSh_harm (gAL_trial v0)), (gLi_fast (gSh_lines (gAL_trial v0))), (gLi_place (gSh_lines (gAL_trial v0))), (gLi_post (gSh_lines (gAL_trial v0))), (gLi_length (gSh_lines (gAL_trial v0))))) else (Option.bind (f_Sh_copyFrom (gAL_trial v0) (gAL_ship v0)) (fun (r5 : (Nat → Int32) × Int64 × (Nat → Int32) × (Nat → Int32) × (Nat → Int32) × (Nat → Int32)) => (Option.bind (f_Sh_passByPlan (sSh_lines (sSh_harm (sSh_ints (gAL_trial v0) (r5.1)) (r5.2.1)) (sLi_length (sLi_post (sLi_place (sLi_fast (gSh_lines (gAL_trial v0)) (r5.2.2.1)) (r5.2.2.2.1)) (r5.2.2.2.2.1)) (r5.2.2.2.2.2))) (gAL_quay v0) (gAL_plan v0) p1) (fun (r6 : Int32 × (Nat → Int32) × Int64 × (Nat → Int32)) => (if p2 = 17 then (Option.bind (f_Li_count (sLi_length (sLi_post (sLi_place (sLi_fast (gSh_lines (gAL_trial v0)) (r6.2.2.2)) (r5.2.2.2.1)) (r5.2.2.2.2.1)) (r5.2.2.2.2.2))) (fun (r8 : Int32) => (some (r8.toInt64, (r6.2.1), (r6.2.2.1), (r6.2.2.2), (r5.2.2.2.1), (r5.2.2.2.2.1), (r5.2.2.2.2.2))))) else (Option.bind (f_AL_readingOf (sAL_trial v0 (sSh_lines (sSh_harm (sSh_ints (gAL_trial v0) (r6.2.1)) (r6.2.2.1)) (sLi_length (sLi_post (sLi_place (sLi_fast (gSh_lines (gAL_trial v0)) (r6.2.2.2)) (r5.2.2.2.1)) (r5.2.2.2.2.1)) (r5.2.2.2.2.2)))) (sSh_lines (sSh_harm (sSh_ints (gAL_trial v0) (r6.2.1)) (r6.2.2.1)) (sLi_length (sLi_post (sLi_place (sLi_fast (gSh_lines (gAL_trial v0)) (r6.2.2.2)) (r5.2.2.2.1)) (r5.2.2.2.2.1)) (r5.2.2.2.2.2))) p2) (fun (r9 : Int64) => (some (r9, (r6.2.1), (r6.2.2.1), (r6.2.2.2), (r5.2.2.2.1), (r5.2.2.2.2.1), (r5.2.2.2.2.2)))))))))))))
abbrev rm_AL_tried : Room := { frames := 5, cells := 0, slots := 0, locals := 128 }
set_option maxHeartbeats 4000000 in
set_option maxRecDepth 100000 in
theorem c_AL_tried (l : Launch) (g : zGl) (a0 : Nat → Nat) (o0 : Nat) (v0 : tAL) (p1 : Int32) (p2 : Int32) (out : Int64 × (Nat → Int32) × Int64 × (Nat → Int32) × (Nat → Int32) × (Nat → Int32) × (Nat → Int32)) (hf : f_AL_tried v0 p1 p2 = some out) : zMl l yX10_tried cX10_tried 3 rm_AL_tried g [.ref (a0 o0), .int p1, .int p2] (w_AL g a0 o0 v0) (out.1) (w_AL g a0 o0 (sAL_trial v0 (sSh_lines (sSh_harm (sSh_ints (gAL_trial v0) (out.2.1)) (out.2.2.1)) (sLi_length (sLi_post (sLi_place (sLi_fast (gSh_lines (gAL_trial v0)) (out.2.2.2.1)) (out.2.2.2.2.1)) (out.2.2.2.2.2.1)) (out.2.2.2.2.2.2))))) := by
  refine zMl_of (lv := [(0, .ref (a0 o0)), (1, .int p1), (2, .int p2)]) (by decide) (Nat.le_of_ble_eq_true rfl) rfl (fun x hl hg C hret => ?_)
  subst hl; subst hg
  rw [f_AL_tried] at hf
  refine r_iload_n C eX10_tried_0 1 rfl rfl ?_
  refine r_iconst C (v := 1) eX10_tried_1 (by decide) ?_
  refine r_icmp_lt C eX10_tried_2 (fun c1 => ?_) (fun c1 => ?_)
  · rw [if_pos c1] at hf
    refine r_ldc2 C (v := (-1000000002)) eX10_tried_19 q682 ?_
    obtain rfl := Option.some.inj (show some (((-1000000002), (gSh_ints (gAL_trial v0)), (gSh_harm (gAL_trial v0)), (gLi_fast (gSh_lines (gAL_trial v0))), (gLi_place (gSh_lines (gAL_trial v0))), (gLi_post (gSh_lines (gAL_trial v0))), (gLi_length (gSh_lines (gAL_trial v0)))) : Int64 × (Nat → Int32) × Int64 × (Nat → Int32) × (Nat → Int32) × (Nat → Int32) × (Nat → Int32)) = some _ from hf)
    exact hret _ _ _ eX10_tried_22
  · rw [if_neg c1] at hf
    refine r_iload_n C eX10_tried_5 1 rfl rfl ?_
    refine r_sipush C (v := 600) eX10_tried_6 (by decide) ?_
    refine r_icmp_gt C eX10_tried_9 (fun c2 => ?_) (fun c2 => ?_)
    · rw [if_pos c2] at hf
      refine r_ldc2 C (v := (-1000000002)) eX10_tried_19 q682 ?_
      obtain rfl := Option.some.inj (show some (((-1000000002), (gSh_ints (gAL_trial v0)), (gSh_harm (gAL_trial v0)), (gLi_fast (gSh_lines (gAL_trial v0))), (gLi_place (gSh_lines (gAL_trial v0))), (gLi_post (gSh_lines (gAL_trial v0))), (gLi_length (gSh_lines (gAL_trial v0)))) : Int64 × (Nat → Int32) × Int64 × (Nat → Int32) × (Nat → Int32) × (Nat → Int32) × (Nat → Int32)) = some _ from hf)
      exact hret _ _ _ eX10_tried_22
    · rw [if_neg c2] at hf
      refine r_iload_n C eX10_tried_12 2 rfl rfl ?_
      refine r_S_z (ws' := w_AL (z_g x) a0 o0 v0) C (c_AL_isTriedReading (z_l x) (z_g x)  p2 _ rfl) eX10_tried_13 MX10_232 [] rfl rfl rfl rfl rfl rfl rfl rfl rfl (fun zb3 => ?_)
      refine r_if_ne C eX10_tried_16 (fun c4 => ?_) (fun c4 => ?_)
      · rw [if_neg c4] at hf
        refine r_aload_n C eX10_tried_23 0 rfl rfl ?_
        refine r_get (v := .ref (a0 (o0 + 45))) C eX10_tried_24 FX10_63 0 rfl rfl ?_
        refine r_aload_n C eX10_tried_27 0 rfl rfl ?_
        refine r_get (v := .ref (a0 (o0 + 27))) C eX10_tried_28 FX10_47 0 rfl rfl ?_
        obtain ⟨r5, hr5, hf⟩ := zbind hf
        refine r_V_v (ws' := w_AL (z_g x) a0 o0 (sAL_trial v0 (sSh_lines (sSh_harm (sSh_ints (gAL_trial v0) (r5.1)) (r5.2.1)) (sLi_length (sLi_post (sLi_place (sLi_fast (gSh_lines (gAL_trial v0)) (r5.2.2.1)) (r5.2.2.2.1)) (r5.2.2.2.2.1)) (r5.2.2.2.2.2))))) C (c_Sh_copyFrom (z_l x) (z_g x) a0 (o0 + 45) (gAL_trial v0) a0 (o0 + 27) (gAL_ship v0)  r5 hr5) eX10_tried_31 MX10_235 ⟨0, 7, _, _, rfl, rfl, rfl⟩ [45, 46, 47, 48, 49, 50, 27, 28, 29, 30, 31, 32] rfl rfl rfl rfl rfl rfl rfl rfl rfl ?_
        refine r_aload_n C eX10_tried_34 0 rfl rfl ?_
        refine r_get (v := .ref (a0 (o0 + 45))) C eX10_tried_35 FX10_63 0 rfl rfl ?_
        refine r_aload_n C eX10_tried_38 0 rfl rfl ?_
        refine r_get (v := .ref (a0 (o0 + 18))) C eX10_tried_39 FX10_26 0 rfl rfl ?_
        refine r_aload_n C eX10_tried_42 0 rfl rfl ?_
        refine r_get (v := .ref (a0 (o0 + 21))) C eX10_tried_43 FX10_33 0 rfl rfl ?_
        refine r_iload_n C eX10_tried_46 1 rfl rfl ?_
        obtain ⟨r6, hr6, hf⟩ := zbind hf
        refine r_V_i (ws' := w_AL (z_g x) a0 o0 (sAL_trial v0 (sSh_lines (sSh_harm (sSh_ints (gAL_trial v0) (r6.2.1)) (r6.2.2.1)) (sLi_length (sLi_post (sLi_place (sLi_fast (gSh_lines (gAL_trial v0)) (r6.2.2.2)) (r5.2.2.2.1)) (r5.2.2.2.2.1)) (r5.2.2.2.2.2))))) C (c_Sh_passByPlan (z_l x) (z_g x) a0 (o0 + 45) (sSh_lines (sSh_harm (sSh_ints (gAL_trial v0) (r5.1)) (r5.2.1)) (sLi_length (sLi_post (sLi_place (sLi_fast (gSh_lines (gAL_trial v0)) (r5.2.2.1)) (r5.2.2.2.1)) (r5.2.2.2.2.1)) (r5.2.2.2.2.2))) a0 (o0 + 18) (gAL_quay v0) a0 (o0 + 21) (gAL_plan v0) p1 r6 hr6) eX10_tried_47 MX10_175 ⟨0, 7, _, _, rfl, rfl, rfl⟩ [45, 46, 47, 48, 49, 50, 18, 19, 20, 21, 22, 23, 24] rfl rfl rfl rfl rfl rfl rfl rfl rfl ?_
        refine r_pop C eX10_tried_50 rfl ?_
        refine r_iload_n C eX10_tried_51 2 rfl rfl ?_
        refine r_bipush C (v := 17) eX10_tried_52 (by decide) ?_
        refine r_icmp_ne C eX10_tried_54 (fun c7 => ?_) (fun c7 => ?_)
        · rw [if_neg c7] at hf
          refine r_aload_n C eX10_tried_71 0 rfl rfl ?_
          refine r_aload_n C eX10_tried_72 0 rfl rfl ?_
          refine r_get (v := .ref (a0 (o0 + 45))) C eX10_tried_73 FX10_63 0 rfl rfl ?_
          refine r_iload_n C eX10_tried_76 2 rfl rfl ?_
          obtain ⟨r9, hr9, hf⟩ := zbind hf
          refine r_V_l (ws' := w_AL (z_g x) a0 o0 (sAL_trial v0 (sSh_lines (sSh_harm (sSh_ints (gAL_trial v0) (r6.2.1)) (r6.2.2.1)) (sLi_length (sLi_post (sLi_place (sLi_fast (gSh_lines (gAL_trial v0)) (r6.2.2.2)) (r5.2.2.2.1)) (r5.2.2.2.2.1)) (r5.2.2.2.2.2))))) C (c_AL_readingOf (z_l x) (z_g x) a0 o0 (sAL_trial v0 (sSh_lines (sSh_harm (sSh_ints (gAL_trial v0) (r6.2.1)) (r6.2.2.1)) (sLi_length (sLi_post (sLi_place (sLi_fast (gSh_lines (gAL_trial v0)) (r6.2.2.2)) (r5.2.2.2.1)) (r5.2.2.2.2.1)) (r5.2.2.2.2.2)))) a0 (o0 + 45) (sSh_lines (sSh_harm (sSh_ints (gAL_trial v0) (r6.2.1)) (r6.2.2.1)) (sLi_length (sLi_post (sLi_place (sLi_fast (gSh_lines (gAL_trial v0)) (r6.2.2.2)) (r5.2.2.2.1)) (r5.2.2.2.2.1)) (r5.2.2.2.2.2))) p2 r9 hr9) eX10_tried_77 MX10_167 ⟨0, 10, _, _, rfl, rfl, rfl⟩ [0, 1, 2, 3, 4, 5, 6, 7, 8, 9, 10, 11, 12, 13, 14, 15, 16, 17, 18, 19, 20, 21, 22, 23, 24, 25, 26, 27, 28, 29, 30, 31, 32, 33, 34, 35, 36, 37, 38, 39, 40, 41, 42, 43, 44, 45, 46, 47, 48, 49, 50, 51, 52, 53, 54, 55, 56, 57, 58, 59, 60, 61, 62, 63, 64, 65, 66, 67, 68, 69, 70, 71, 72, 45, 46, 47, 48, 49, 50] rfl rfl rfl rfl rfl rfl rfl rfl rfl ?_
          obtain rfl := Option.some.inj (show some ((r9, (r6.2.1), (r6.2.2.1), (r6.2.2.2), (r5.2.2.2.1), (r5.2.2.2.2.1), (r5.2.2.2.2.2)) : Int64 × (Nat → Int32) × Int64 × (Nat → Int32) × (Nat → Int32) × (Nat → Int32) × (Nat → Int32)) = some _ from hf)
          exact hret _ _ _ eX10_tried_80
        · rw [if_pos c7] at hf
          refine r_aload_n C eX10_tried_57 0 rfl rfl ?_
          refine r_get (v := .ref (a0 (o0 + 45))) C eX10_tried_58 FX10_63 0 rfl rfl ?_
          refine r_get (v := .ref (a0 ((o0 + 45) + 1))) C eX10_tried_61 FX10_187 45 rfl rfl ?_
          obtain ⟨r8, hr8, hf⟩ := zbind hf
          refine r_V_i (ws' := w_AL (z_g x) a0 o0 (sAL_trial v0 (sSh_lines (sSh_harm (sSh_ints (gAL_trial v0) (r6.2.1)) (r6.2.2.1)) (sLi_length (sLi_post (sLi_place (sLi_fast (gSh_lines (gAL_trial v0)) (r6.2.2.2)) (r5.2.2.2.1)) (r5.2.2.2.2.1)) (r5.2.2.2.2.2))))) C (c_Li_count (z_l x) (z_g x) a0 ((o0 + 45) + 1) (sLi_length (sLi_post (sLi_place (sLi_fast (gSh_lines (gAL_trial v0)) (r6.2.2.2)) (r5.2.2.2.1)) (r5.2.2.2.2.1)) (r5.2.2.2.2.2))  r8 hr8) eX10_tried_64 MX10_238 ⟨0, 1, _, _, rfl, rfl, rfl⟩ [46, 47, 48, 49, 50] rfl rfl rfl rfl rfl rfl rfl rfl rfl ?_
          refine r_i2l C eX10_tried_67 ?_
          refine r_goto C eX10_tried_68 ?_
          obtain rfl := Option.some.inj (show some ((r8.toInt64, (r6.2.1), (r6.2.2.1), (r6.2.2.2), (r5.2.2.2.1), (r5.2.2.2.2.1), (r5.2.2.2.2.2)) : Int64 × (Nat → Int32) × Int64 × (Nat → Int32) × (Nat → Int32) × (Nat → Int32) × (Nat → Int32)) = some _ from hf)
          exact hret _ _ _ eX10_tried_80
      · rw [if_pos c4] at hf
        refine r_ldc2 C (v := (-1000000002)) eX10_tried_19 q682 ?_
        obtain rfl := Option.some.inj (show some (((-1000000002), (gSh_ints (gAL_trial v0)), (gSh_harm (gAL_trial v0)), (gLi_fast (gSh_lines (gAL_trial v0))), (gLi_place (gSh_lines (gAL_trial v0))), (gLi_post (gSh_lines (gAL_trial v0))), (gLi_length (gSh_lines (gAL_trial v0)))) : Int64 × (Nat → Int32) × Int64 × (Nat → Int32) × (Nat → Int32) × (Nat → Int32) × (Nat → Int32)) = some _ from hf)
        exact hret _ _ _ eX10_tried_22
theorem eX10_tug_0 : zd 1 cX10_tug 0 1 (.iload_n 1) := ⟨by decide +kernel, rfl⟩
theorem eX10_tug_1 : zd 3 cX10_tug 1 4 (.invokestatic 249) := ⟨by decide +kernel, rfl⟩
theorem eX10_tug_4 : zdi cX10_tug 4 7 30 (.ifCond .eq) := ⟨26, by decide +kernel, rfl, by decide⟩
theorem eX10_tug_7 : zd 1 cX10_tug 7 8 (.aload_n 0) := ⟨by decide +kernel, rfl⟩
theorem eX10_tug_8 : zd 3 cX10_tug 8 11 (.getfield 69) := ⟨by decide +kernel, rfl⟩
theorem eX10_tug_11 : zd 1 cX10_tug 11 12 (.aload_n 0) := ⟨by decide +kernel, rfl⟩
theorem eX10_tug_12 : zd 3 cX10_tug 12 15 (.getfield 26) := ⟨by decide +kernel, rfl⟩
theorem eX10_tug_15 : zd 1 cX10_tug 15 16 (.aload_n 0) := ⟨by decide +kernel, rfl⟩
theorem eX10_tug_16 : zd 3 cX10_tug 16 19 (.getfield 47) := ⟨by decide +kernel, rfl⟩
theorem eX10_tug_19 : zd 1 cX10_tug 19 20 (.aload_n 0) := ⟨by decide +kernel, rfl⟩
theorem eX10_tug_20 : zd 3 cX10_tug 20 23 (.getfield 33) := ⟨by decide +kernel, rfl⟩
theorem eX10_tug_23 : zd 1 cX10_tug 23 24 (.iload_n 1) := ⟨by decide +kernel, rfl⟩
theorem eX10_tug_24 : zd 3 cX10_tug 24 27 (.invokevirtual 259) := ⟨by decide +kernel, rfl⟩
theorem eX10_tug_27 : zdi cX10_tug 27 30 32 (.goto) := ⟨5, by decide +kernel, rfl, by decide⟩
theorem eX10_tug_30 : zd 2 cX10_tug 30 32 (.ldc 97) := ⟨by decide +kernel, rfl⟩
theorem eX10_tug_32 : zd 1 cX10_tug 32 33 (.ireturn) := ⟨by decide +kernel, rfl⟩
theorem MX10_259 : zlV RX10 259 yX6_leastTug cX6_leastTug 6 ((Option.some FieldType.int)) 4 := ⟨q940, q941, q942, q9, q943, by decide, by decide, by decide +kernel⟩
noncomputable def f_AL_tug (v0 : tAL) (p1 : Int32) : Option (Int32 × (Nat → Int32) × Int64 × (Nat → Int32) × (Nat → Int32) × (Nat → Int32) × (Nat → Int32)) := (if (f_AL_isSearchLength p1) = 0 then (some ((-1000000002), (gSh_ints (gSe_probe (gAL_search v0))), (gSh_harm (gSe_probe (gAL_search v0))), (gLi_fast (gSh_lines (gSe_probe (gAL_search v0)))), (gLi_place (gSh_lines (gSe_probe (gAL_search v0)))), (gLi_post (gSh_lines (gSe_probe (gAL_search v0)))), (gLi_length (gSh_lines (gSe_probe (gAL_search v0)))))) else (Option.bind (f_Se_leastTug (gAL_search v0) (gAL_quay v0) (gAL_ship v0) (gAL_plan v0) p1) (fun (r3 : Int32 × (Nat → Int32) × Int64 × (Nat → Int32) × (Nat → Int32) × (Nat → Int32) × (Nat → Int32)) => (some ((r3.1), (r3.2.1), (r3.2.2.1), (r3.2.2.2.1), (r3.2.2.2.2.1), (r3.2.2.2.2.2.1), (r3.2.2.2.2.2.2))))))
abbrev rm_AL_tug : Room := { frames := 6, cells := 0, slots := 0, locals := 154 }
set_option maxHeartbeats 4000000 in
set_option maxRecDepth 100000 in
theorem c_AL_tug (l : Launch) (g : zGl) (a0 : Nat → Nat) (o0 : Nat) (v0 : tAL) (p1 : Int32) (out : Int32 × (Nat → Int32) × Int64 × (Nat → Int32) × (Nat → Int32) × (Nat → Int32) × (Nat → Int32)) (hf : f_AL_tug v0 p1 = some out) : zMi l yX10_tug cX10_tug 2 rm_AL_tug g [.ref (a0 o0), .int p1] (w_AL g a0 o0 v0) (out.1) (w_AL g a0 o0 (sAL_search v0 (sSe_probe (gAL_search v0) (sSh_lines (sSh_harm (sSh_ints (gSe_probe (gAL_search v0)) (out.2.1)) (out.2.2.1)) (sLi_length (sLi_post (sLi_place (sLi_fast (gSh_lines (gSe_probe (gAL_search v0))) (out.2.2.2.1)) (out.2.2.2.2.1)) (out.2.2.2.2.2.1)) (out.2.2.2.2.2.2)))))) := by
  refine zMi_of (lv := [(0, .ref (a0 o0)), (1, .int p1)]) (by decide) (Nat.le_of_ble_eq_true rfl) rfl (fun x hl hg C hret => ?_)
  subst hl; subst hg
  rw [f_AL_tug] at hf
  refine r_iload_n C eX10_tug_0 1 rfl rfl ?_
  refine r_S_z (ws' := w_AL (z_g x) a0 o0 v0) C (c_AL_isSearchLength (z_l x) (z_g x)  p1 _ rfl) eX10_tug_1 MX10_249 [] rfl rfl rfl rfl rfl rfl rfl rfl rfl (fun zb1 => ?_)
  refine r_if_eq C eX10_tug_4 (fun c2 => ?_) (fun c2 => ?_)
  · rw [if_pos c2] at hf
    refine r_ldc C (v := (-1000000002)) eX10_tug_30 q424 ?_
    obtain rfl := Option.some.inj (show some (((-1000000002), (gSh_ints (gSe_probe (gAL_search v0))), (gSh_harm (gSe_probe (gAL_search v0))), (gLi_fast (gSh_lines (gSe_probe (gAL_search v0)))), (gLi_place (gSh_lines (gSe_probe (gAL_search v0)))), (gLi_post (gSh_lines (gSe_probe (gAL_search v0)))), (gLi_length (gSh_lines (gSe_probe (gAL_search v0))))) : Int32 × (Nat → Int32) × Int64 × (Nat → Int32) × (Nat → Int32) × (Nat → Int32) × (Nat → Int32)) = some _ from hf)
    exact hret _ _ _ eX10_tug_32
  · rw [if_neg c2] at hf
    refine r_aload_n C eX10_tug_7 0 rfl rfl ?_
    refine r_get (v := .ref (a0 (o0 + 51))) C eX10_tug_8 FX10_69 0 rfl rfl ?_
    refine r_aload_n C eX10_tug_11 0 rfl rfl ?_
    refine r_get (v := .ref (a0 (o0 + 18))) C eX10_tug_12 FX10_26 0 rfl rfl ?_
    refine r_aload_n C eX10_tug_15 0 rfl rfl ?_
    refine r_get (v := .ref (a0 (o0 + 27))) C eX10_tug_16 FX10_47 0 rfl rfl ?_
    refine r_aload_n C eX10_tug_19 0 rfl rfl ?_
    refine r_get (v := .ref (a0 (o0 + 21))) C eX10_tug_20 FX10_33 0 rfl rfl ?_
    refine r_iload_n C eX10_tug_23 1 rfl rfl ?_
    obtain ⟨r3, hr3, hf⟩ := zbind hf
    refine r_V_i (ws' := w_AL (z_g x) a0 o0 (sAL_search v0 (sSe_probe (gAL_search v0) (sSh_lines (sSh_harm (sSh_ints (gSe_probe (gAL_search v0)) (r3.2.1)) (r3.2.2.1)) (sLi_length (sLi_post (sLi_place (sLi_fast (gSh_lines (gSe_probe (gAL_search v0))) (r3.2.2.2.1)) (r3.2.2.2.2.1)) (r3.2.2.2.2.2.1)) (r3.2.2.2.2.2.2)))))) C (c_Se_leastTug (z_l x) (z_g x) a0 (o0 + 51) (gAL_search v0) a0 (o0 + 18) (gAL_quay v0) a0 (o0 + 27) (gAL_ship v0) a0 (o0 + 21) (gAL_plan v0) p1 r3 hr3) eX10_tug_24 MX10_259 ⟨0, 6, _, _, rfl, rfl, rfl⟩ [51, 52, 53, 54, 55, 56, 57, 58, 59, 60, 61, 62, 63, 64, 65, 66, 18, 19, 20, 27, 28, 29, 30, 31, 32, 21, 22, 23, 24] rfl rfl rfl rfl rfl rfl rfl rfl rfl ?_
    refine r_goto C eX10_tug_27 ?_
    obtain rfl := Option.some.inj (show some (((r3.1), (r3.2.1), (r3.2.2.1), (r3.2.2.2.1), (r3.2.2.2.2.1), (r3.2.2.2.2.2.1), (r3.2.2.2.2.2.2)) : Int32 × (Nat → Int32) × Int64 × (Nat → Int32) × (Nat → Int32) × (Nat → Int32) × (Nat → Int32)) = some _ from hf)
    exact hret _ _ _ eX10_tug_32
theorem eX10_veer_0 : zd 1 cX10_veer 0 1 (.aload_n 0) := ⟨by decide +kernel, rfl⟩
theorem eX10_veer_1 : zd 3 cX10_veer 1 4 (.getfield 47) := ⟨by decide +kernel, rfl⟩
theorem eX10_veer_4 : zd 3 cX10_veer 4 7 (.getfield 187) := ⟨by decide +kernel, rfl⟩
theorem eX10_veer_7 : zd 1 cX10_veer 7 8 (.iload_n 1) := ⟨by decide +kernel, rfl⟩
theorem eX10_veer_8 : zd 3 cX10_veer 8 11 (.invokevirtual 191) := ⟨by decide +kernel, rfl⟩
theorem eX10_veer_11 : zdi cX10_veer 11 14 17 (.ifCond .ne) := ⟨6, by decide +kernel, rfl, by decide⟩
theorem eX10_veer_14 : zd 2 cX10_veer 14 16 (.ldc 147) := ⟨by decide +kernel, rfl⟩
theorem eX10_veer_16 : zd 1 cX10_veer 16 17 (.ireturn) := ⟨by decide +kernel, rfl⟩
theorem eX10_veer_17 : zd 1 cX10_veer 17 18 (.iload_n 2) := ⟨by decide +kernel, rfl⟩
theorem eX10_veer_18 : zdi cX10_veer 18 21 28 (.ifCond .lt) := ⟨10, by decide +kernel, rfl, by decide⟩
theorem eX10_veer_21 : zd 1 cX10_veer 21 22 (.iload_n 2) := ⟨by decide +kernel, rfl⟩
theorem eX10_veer_22 : zd 3 cX10_veer 22 25 (.sipush 9999) := ⟨by decide +kernel, rfl⟩
theorem eX10_veer_25 : zdi cX10_veer 25 28 31 (.if_icmp .le) := ⟨6, by decide +kernel, rfl, by decide⟩
theorem eX10_veer_28 : zd 2 cX10_veer 28 30 (.ldc 97) := ⟨by decide +kernel, rfl⟩
theorem eX10_veer_30 : zd 1 cX10_veer 30 31 (.ireturn) := ⟨by decide +kernel, rfl⟩
theorem eX10_veer_31 : zd 1 cX10_veer 31 32 (.aload_n 0) := ⟨by decide +kernel, rfl⟩
theorem eX10_veer_32 : zd 3 cX10_veer 32 35 (.getfield 47) := ⟨by decide +kernel, rfl⟩
theorem eX10_veer_35 : zd 3 cX10_veer 35 38 (.getfield 187) := ⟨by decide +kernel, rfl⟩
theorem eX10_veer_38 : zd 3 cX10_veer 38 41 (.getfield 210) := ⟨by decide +kernel, rfl⟩
theorem eX10_veer_41 : zd 1 cX10_veer 41 42 (.iload_n 1) := ⟨by decide +kernel, rfl⟩
theorem eX10_veer_42 : zd 1 cX10_veer 42 43 (.iaload) := ⟨by decide +kernel, rfl⟩
theorem eX10_veer_43 : zd 1 cX10_veer 43 44 (.istore_n 3) := ⟨by decide +kernel, rfl⟩
theorem eX10_veer_44 : zd 1 cX10_veer 44 45 (.aload_n 0) := ⟨by decide +kernel, rfl⟩
theorem eX10_veer_45 : zd 3 cX10_veer 45 48 (.getfield 47) := ⟨by decide +kernel, rfl⟩
theorem eX10_veer_48 : zd 3 cX10_veer 48 51 (.getfield 187) := ⟨by decide +kernel, rfl⟩
theorem eX10_veer_51 : zd 3 cX10_veer 51 54 (.getfield 210) := ⟨by decide +kernel, rfl⟩
theorem eX10_veer_54 : zd 1 cX10_veer 54 55 (.iload_n 1) := ⟨by decide +kernel, rfl⟩
theorem eX10_veer_55 : zd 1 cX10_veer 55 56 (.iload_n 2) := ⟨by decide +kernel, rfl⟩
theorem eX10_veer_56 : zd 1 cX10_veer 56 57 (.iastore) := ⟨by decide +kernel, rfl⟩
theorem eX10_veer_57 : zd 1 cX10_veer 57 58 (.iload_n 3) := ⟨by decide +kernel, rfl⟩
theorem eX10_veer_58 : zd 1 cX10_veer 58 59 (.ireturn) := ⟨by decide +kernel, rfl⟩
noncomputable def f_AL_veer (v0 : tAL) (p1 : Int32) (p2 : Int32) : Option (Int32 × (Nat → Int32)) := (Option.bind (f_Li_isFast (gSh_lines (gAL_ship v0)) p1) (fun (r1 : Int32) => (if r1 = 0 then (some ((-1000000001), (gLi_length (gSh_lines (gAL_ship v0))))) else (if p2 < 0 then (some ((-1000000002), (gLi_length (gSh_lines (gAL_ship v0))))) else (if p2 ≤ 9999 then (if inb p1 6 = true then (if inb p1 6 = true then (some (((gLi_length (gSh_lines (gAL_ship v0))) (ix p1)), (upd (gLi_length (gSh_lines (gAL_ship v0))) (ix p1) p2))) else none) else none) else (some ((-1000000002), (gLi_length (gSh_lines (gAL_ship v0))))))))))
abbrev rm_AL_veer : Room := { frames := 1, cells := 0, slots := 0, locals := 21 }
set_option maxHeartbeats 4000000 in
set_option maxRecDepth 100000 in
theorem c_AL_veer (l : Launch) (g : zGl) (a0 : Nat → Nat) (o0 : Nat) (v0 : tAL) (p1 : Int32) (p2 : Int32) (out : Int32 × (Nat → Int32)) (hf : f_AL_veer v0 p1 p2 = some out) : zMi l yX10_veer cX10_veer 4 rm_AL_veer g [.ref (a0 o0), .int p1, .int p2] (w_AL g a0 o0 v0) (out.1) (w_AL g a0 o0 (sAL_ship v0 (sSh_lines (gAL_ship v0) (sLi_length (gSh_lines (gAL_ship v0)) (out.2))))) := by
  refine zMi_of (lv := [(0, .ref (a0 o0)), (1, .int p1), (2, .int p2)]) (by decide) (Nat.le_of_ble_eq_true rfl) rfl (fun x hl hg C hret => ?_)
  subst hl; subst hg
  rw [f_AL_veer] at hf
  refine r_aload_n C eX10_veer_0 0 rfl rfl ?_
  refine r_get (v := .ref (a0 (o0 + 27))) C eX10_veer_1 FX10_47 0 rfl rfl ?_
  refine r_get (v := .ref (a0 ((o0 + 27) + 1))) C eX10_veer_4 FX10_187 27 rfl rfl ?_
  refine r_iload_n C eX10_veer_7 1 rfl rfl ?_
  obtain ⟨r1, hr1, hf⟩ := zbind hf
  refine r_V_z (ws' := w_AL (z_g x) a0 o0 v0) C (c_Li_isFast (z_l x) (z_g x) a0 ((o0 + 27) + 1) (gSh_lines (gAL_ship v0)) p1 r1 hr1) eX10_veer_8 MX10_191 ⟨0, 1, _, _, rfl, rfl, rfl⟩ [28, 29, 30, 31, 32] rfl rfl rfl rfl rfl rfl rfl rfl rfl (fun zb2 => ?_)
  refine r_if_ne C eX10_veer_11 (fun c3 => ?_) (fun c3 => ?_)
  · rw [if_neg c3] at hf
    refine r_iload_n C eX10_veer_17 2 rfl rfl ?_
    refine r_if_lt C eX10_veer_18 (fun c4 => ?_) (fun c4 => ?_)
    · rw [if_pos c4] at hf
      refine r_ldc C (v := (-1000000002)) eX10_veer_28 q424 ?_
      obtain rfl := Option.some.inj (show some (((-1000000002), (gLi_length (gSh_lines (gAL_ship v0)))) : Int32 × (Nat → Int32)) = some _ from hf)
      exact hret _ _ _ eX10_veer_30
    · rw [if_neg c4] at hf
      refine r_iload_n C eX10_veer_21 2 rfl rfl ?_
      refine r_sipush C (v := 9999) eX10_veer_22 (by decide) ?_
      refine r_icmp_le C eX10_veer_25 (fun c5 => ?_) (fun c5 => ?_)
      · rw [if_pos c5] at hf
        refine r_aload_n C eX10_veer_31 0 rfl rfl ?_
        refine r_get (v := .ref (a0 (o0 + 27))) C eX10_veer_32 FX10_47 0 rfl rfl ?_
        refine r_get (v := .ref (a0 ((o0 + 27) + 1))) C eX10_veer_35 FX10_187 27 rfl rfl ?_
        refine r_get (v := .ref (a0 (((o0 + 27) + 1) + 4))) C eX10_veer_38 FX10_210 28 rfl rfl ?_
        refine r_iload_n C eX10_veer_41 1 rfl rfl ?_
        obtain ⟨hb6, hf⟩ := zchk hf
        refine r_iald C eX10_veer_42 32 rfl (inb_in hb6) ((gLi_length (gSh_lines (gAL_ship v0))) (ix p1)) rfl ?_
        refine r_istore_n C [(3, .int ((gLi_length (gSh_lines (gAL_ship v0))) (ix p1))), (0, .ref (a0 o0)), (1, .int p1), (2, .int p2)] eX10_veer_43 rfl (by decide) rfl ?_
        refine r_aload_n C eX10_veer_44 1 rfl rfl ?_
        refine r_get (v := .ref (a0 (o0 + 27))) C eX10_veer_45 FX10_47 0 rfl rfl ?_
        refine r_get (v := .ref (a0 ((o0 + 27) + 1))) C eX10_veer_48 FX10_187 27 rfl rfl ?_
        refine r_get (v := .ref (a0 (((o0 + 27) + 1) + 4))) C eX10_veer_51 FX10_210 28 rfl rfl ?_
        refine r_iload_n C eX10_veer_54 2 rfl rfl ?_
        refine r_iload_n C eX10_veer_55 3 rfl rfl ?_
        obtain ⟨hb7, hf⟩ := zchk hf
        refine r_iast (ws' := w_AL (z_g x) a0 o0 (sAL_ship v0 (sSh_lines (gAL_ship v0) (sLi_length (gSh_lines (gAL_ship v0)) (upd (gLi_length (gSh_lines (gAL_ship v0))) (ix p1) p2))))) C eX10_veer_56 32 rfl (inb_in hb7) rfl ?_
        refine r_iload_n C eX10_veer_57 0 rfl rfl ?_
        obtain rfl := Option.some.inj (show some ((((gLi_length (gSh_lines (gAL_ship v0))) (ix p1)), (upd (gLi_length (gSh_lines (gAL_ship v0))) (ix p1) p2)) : Int32 × (Nat → Int32)) = some _ from hf)
        exact hret _ _ _ eX10_veer_58
      · rw [if_neg c5] at hf
        refine r_ldc C (v := (-1000000002)) eX10_veer_28 q424 ?_
        obtain rfl := Option.some.inj (show some (((-1000000002), (gLi_length (gSh_lines (gAL_ship v0)))) : Int32 × (Nat → Int32)) = some _ from hf)
        exact hret _ _ _ eX10_veer_30
  · rw [if_pos c3] at hf
    refine r_ldc C (v := (-1000000001)) eX10_veer_14 q649 ?_
    obtain rfl := Option.some.inj (show some (((-1000000001), (gLi_length (gSh_lines (gAL_ship v0)))) : Int32 × (Nat → Int32)) = some _ from hf)
    exact hret _ _ _ eX10_veer_16
