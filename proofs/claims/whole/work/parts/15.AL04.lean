theorem eX10_wakes_0 : zd 1 cX10_wakes 0 1 (.iload_n 1) := ⟨by decide +kernel, rfl⟩
theorem eX10_wakes_1 : zd 3 cX10_wakes 1 4 (.invokestatic 265) := ⟨by decide +kernel, rfl⟩
theorem eX10_wakes_4 : zdi cX10_wakes 4 7 10 (.ifCond .ne) := ⟨6, by decide +kernel, rfl, by decide⟩
theorem eX10_wakes_7 : zd 2 cX10_wakes 7 9 (.ldc 97) := ⟨by decide +kernel, rfl⟩
theorem eX10_wakes_9 : zd 1 cX10_wakes 9 10 (.ireturn) := ⟨by decide +kernel, rfl⟩
theorem eX10_wakes_10 : zd 1 cX10_wakes 10 11 (.iconst 0) := ⟨by decide +kernel, rfl⟩
theorem eX10_wakes_11 : zd 1 cX10_wakes 11 12 (.istore_n 2) := ⟨by decide +kernel, rfl⟩
theorem eX10_wakes_12 : zd 1 cX10_wakes 12 13 (.iconst 0) := ⟨by decide +kernel, rfl⟩
theorem eX10_wakes_13 : zd 1 cX10_wakes 13 14 (.istore_n 3) := ⟨by decide +kernel, rfl⟩
theorem eX10_wakes_14 : zd 1 cX10_wakes 14 15 (.iload_n 3) := ⟨by decide +kernel, rfl⟩
theorem eX10_wakes_15 : zd 2 cX10_wakes 15 17 (.bipush 6) := ⟨by decide +kernel, rfl⟩
theorem eX10_wakes_17 : zdi cX10_wakes 17 20 74 (.if_icmp .ge) := ⟨57, by decide +kernel, rfl, by decide⟩
theorem eX10_wakes_20 : zd 1 cX10_wakes 20 21 (.aload_n 0) := ⟨by decide +kernel, rfl⟩
theorem eX10_wakes_21 : zd 3 cX10_wakes 21 24 (.getfield 47) := ⟨by decide +kernel, rfl⟩
theorem eX10_wakes_24 : zd 3 cX10_wakes 24 27 (.getfield 187) := ⟨by decide +kernel, rfl⟩
theorem eX10_wakes_27 : zd 1 cX10_wakes 27 28 (.iload_n 3) := ⟨by decide +kernel, rfl⟩
theorem eX10_wakes_28 : zd 3 cX10_wakes 28 31 (.invokevirtual 191) := ⟨by decide +kernel, rfl⟩
theorem eX10_wakes_31 : zdi cX10_wakes 31 34 68 (.ifCond .eq) := ⟨37, by decide +kernel, rfl, by decide⟩
theorem eX10_wakes_34 : zd 1 cX10_wakes 34 35 (.aload_n 0) := ⟨by decide +kernel, rfl⟩
theorem eX10_wakes_35 : zd 3 cX10_wakes 35 38 (.getfield 76) := ⟨by decide +kernel, rfl⟩
theorem eX10_wakes_38 : zd 1 cX10_wakes 38 39 (.aload_n 0) := ⟨by decide +kernel, rfl⟩
theorem eX10_wakes_39 : zd 3 cX10_wakes 39 42 (.getfield 40) := ⟨by decide +kernel, rfl⟩
theorem eX10_wakes_42 : zd 1 cX10_wakes 42 43 (.aload_n 0) := ⟨by decide +kernel, rfl⟩
theorem eX10_wakes_43 : zd 3 cX10_wakes 43 46 (.getfield 47) := ⟨by decide +kernel, rfl⟩
theorem eX10_wakes_46 : zd 1 cX10_wakes 46 47 (.aload_n 0) := ⟨by decide +kernel, rfl⟩
theorem eX10_wakes_47 : zd 3 cX10_wakes 47 50 (.getfield 26) := ⟨by decide +kernel, rfl⟩
theorem eX10_wakes_50 : zd 1 cX10_wakes 50 51 (.iload_n 3) := ⟨by decide +kernel, rfl⟩
theorem eX10_wakes_51 : zd 3 cX10_wakes 51 54 (.invokevirtual 268) := ⟨by decide +kernel, rfl⟩
theorem eX10_wakes_54 : zd 1 cX10_wakes 54 55 (.iload_n 1) := ⟨by decide +kernel, rfl⟩
theorem eX10_wakes_55 : zd 3 cX10_wakes 55 58 (.invokevirtual 278) := ⟨by decide +kernel, rfl⟩
theorem eX10_wakes_58 : zd 1 cX10_wakes 58 59 (.iload_n 2) := ⟨by decide +kernel, rfl⟩
theorem eX10_wakes_59 : zd 1 cX10_wakes 59 60 (.aload_n 0) := ⟨by decide +kernel, rfl⟩
theorem eX10_wakes_60 : zd 3 cX10_wakes 60 63 (.getfield 76) := ⟨by decide +kernel, rfl⟩
theorem eX10_wakes_63 : zd 3 cX10_wakes 63 66 (.invokevirtual 286) := ⟨by decide +kernel, rfl⟩
theorem eX10_wakes_66 : zd 1 cX10_wakes 66 67 (.ior) := ⟨by decide +kernel, rfl⟩
theorem eX10_wakes_67 : zd 1 cX10_wakes 67 68 (.istore_n 2) := ⟨by decide +kernel, rfl⟩
theorem eX10_wakes_68 : zd 3 cX10_wakes 68 71 (.iinc 3 1) := ⟨by decide +kernel, rfl⟩
theorem eX10_wakes_71 : zdi cX10_wakes 71 74 14 (.goto) := ⟨(-57), by decide +kernel, rfl, by decide⟩
theorem eX10_wakes_74 : zd 1 cX10_wakes 74 75 (.iload_n 2) := ⟨by decide +kernel, rfl⟩
theorem eX10_wakes_75 : zd 1 cX10_wakes 75 76 (.ireturn) := ⟨by decide +kernel, rfl⟩
theorem MX10_286 : zlV RX10 286 yX2_hoursAsSet cX2_hoursAsSet 3 ((Option.some FieldType.int)) 0 := ⟨q988, q989, q990, q10, q991, by decide, by decide, by decide +kernel⟩
noncomputable def fB_AL_wakes_14 (v0 : tAL) (p1 : Int32) (ih : (Int32 × Int32 × (Nat → Int32) × (Nat → Int32)) → Option (Int32 × Int32 × (Nat → Int32) × (Nat → Int32))) (s3 : Int32 × Int32 × (Nat → Int32) × (Nat → Int32)) : Option (Int32 × Int32 × (Nat → Int32) × (Nat → Int32)) := (if 6 ≤ (s3.2.1) then (some ((s3.1), (s3.2.1), (s3.2.2.1), (s3.2.2.2))) else (Option.bind (f_Li_isFast (gSh_lines (gAL_ship v0)) (s3.2.1)) (fun (r9 : Int32) => (if r9 = 0 then (ih ((s3.1), ((s3.2.1) + 1), (s3.2.2.1), (s3.2.2.2))) else (Option.bind (f_Sh_lineAlong (gAL_ship v0) (gAL_quay v0) (s3.2.1)) (fun (r12 : Int32) => (Option.bind (f_Ni_tend (sNi_hours (sNi_ints (gAL_night v0) (s3.2.2.1)) (s3.2.2.2)) (gAL_tide v0) r12 p1) (fun (r13 : (Nat → Int32) × (Nat → Int32)) => (Option.bind (f_Ni_hoursAsSet (sNi_hours (sNi_ints (gAL_night v0) (r13.1)) (r13.2))) (fun (r14 : Int32) => (zlet ((s3.1) ||| r14) (fun (z15 : Int32) => (ih (z15, ((s3.2.1) + 1), (r13.1), (r13.2)))))))))))))))
noncomputable def f_AL_wakes (v0 : tAL) (p1 : Int32) : Option (Int32 × (Nat → Int32) × (Nat → Int32)) := (if (f_Ni_isDeck p1) = 0 then (some ((-1000000002), (gNi_ints (gAL_night v0)), (gNi_hours (gAL_night v0)))) else (Option.bind (lp (fB_AL_wakes_14 v0 p1) LF (0, 0, (gNi_ints (gAL_night v0)), (gNi_hours (gAL_night v0)))) (fun (q4 : Int32 × Int32 × (Nat → Int32) × (Nat → Int32)) => (some ((q4.1), (q4.2.2.1), (q4.2.2.2))))))
abbrev rm_AL_wakes : Room := { frames := 4, cells := 0, slots := 0, locals := 98 }
set_option maxHeartbeats 4000000 in
set_option maxRecDepth 100000 in
theorem c_AL_wakes (l : Launch) (g : zGl) (a0 : Nat → Nat) (o0 : Nat) (v0 : tAL) (p1 : Int32) (out : Int32 × (Nat → Int32) × (Nat → Int32)) (hf : f_AL_wakes v0 p1 = some out) : zMi l yX10_wakes cX10_wakes 4 rm_AL_wakes g [.ref (a0 o0), .int p1] (w_AL g a0 o0 v0) (out.1) (w_AL g a0 o0 (sAL_night v0 (sNi_hours (sNi_ints (gAL_night v0) (out.2.1)) (out.2.2)))) := by
  refine zMi_of (lv := [(0, .ref (a0 o0)), (1, .int p1)]) (by decide) (Nat.le_of_ble_eq_true rfl) rfl (fun x hl hg C hret => ?_)
  subst hl; subst hg
  rw [f_AL_wakes] at hf
  refine r_iload_n C eX10_wakes_0 1 rfl rfl ?_
  refine r_S_z (ws' := w_AL (z_g x) a0 o0 v0) C (c_Ni_isDeck (z_l x) (z_g x)  p1 _ rfl) eX10_wakes_1 MX10_265 [] rfl rfl rfl rfl rfl rfl rfl rfl rfl (fun zb1 => ?_)
  refine r_if_ne C eX10_wakes_4 (fun c2 => ?_) (fun c2 => ?_)
  · rw [if_neg c2] at hf
    refine r_iconst C (v := 0) eX10_wakes_10 (by decide) ?_
    refine r_istore_n C [(2, .int 0), (0, .ref (a0 o0)), (1, .int p1)] eX10_wakes_11 rfl (by decide) rfl ?_
    refine r_iconst C (v := 0) eX10_wakes_12 (by decide) ?_
    refine r_istore_n C [(3, .int 0), (2, .int 0), (0, .ref (a0 o0)), (1, .int p1)] eX10_wakes_13 rfl (by decide) rfl ?_
    obtain ⟨q4, h5, hf⟩ := zbind hf
    have J6 : vV x 4 0 0 (w_AL (z_g x) a0 o0 (sAL_night v0 (sNi_hours (sNi_ints (gAL_night v0) (q4.2.2.1)) (q4.2.2.2)))) 74 [(2, .int (q4.1))] [] := by
      refine r_iload_n C eX10_wakes_74 0 rfl rfl ?_
      obtain rfl := Option.some.inj (show some (((q4.1), (q4.2.2.1), (q4.2.2.2)) : Int32 × (Nat → Int32) × (Nat → Int32)) = some _ from hf)
      exact hret _ _ _ eX10_wakes_75
    have L7 : ∀ (nL7 : Nat) (s3 : Int32 × Int32 × (Nat → Int32) × (Nat → Int32)), lp (fB_AL_wakes_14 v0 p1) nL7 s3 = some q4 → vV x 4 0 0 (w_AL (z_g x) a0 o0 (sAL_night v0 (sNi_hours (sNi_ints (gAL_night v0) (s3.2.2.1)) (s3.2.2.2)))) 14 [(0, .ref (a0 o0)), (1, .int p1), (2, .int (s3.1)), (3, .int (s3.2.1))] [] := by
      intro nL7
      induction nL7 with
      | zero => intro s3 hq; cases hq
      | succ nL7 ihL7 =>
        intro s3 hbL7
        rw [lp_succ, fB_AL_wakes_14] at hbL7
        refine r_iload_n C eX10_wakes_14 3 rfl rfl ?_
        refine r_bipush C (v := 6) eX10_wakes_15 (by decide) ?_
        refine r_icmp_ge C eX10_wakes_17 (fun c8 => ?_) (fun c8 => ?_)
        · rw [if_pos c8] at hbL7
          obtain rfl := Option.some.inj hbL7
          refine r_sub (lv' := [(2, .int (s3.1))]) [2] rfl ?_
          exact J6
        · rw [if_neg c8] at hbL7
          refine r_aload_n C eX10_wakes_20 0 rfl rfl ?_
          refine r_get (v := .ref (a0 (o0 + 27))) C eX10_wakes_21 FX10_47 0 rfl rfl ?_
          refine r_get (v := .ref (a0 ((o0 + 27) + 1))) C eX10_wakes_24 FX10_187 27 rfl rfl ?_
          refine r_iload_n C eX10_wakes_27 3 rfl rfl ?_
          obtain ⟨r9, hr9, hbL7⟩ := zbind hbL7
          refine r_V_z (ws' := w_AL (z_g x) a0 o0 (sAL_night v0 (sNi_hours (sNi_ints (gAL_night v0) (s3.2.2.1)) (s3.2.2.2)))) C (c_Li_isFast (z_l x) (z_g x) a0 ((o0 + 27) + 1) (gSh_lines (gAL_ship v0)) (s3.2.1) r9 hr9) eX10_wakes_28 MX10_191 ⟨0, 1, _, _, rfl, rfl, rfl⟩ [28, 29, 30, 31, 32] rfl rfl rfl rfl rfl rfl rfl rfl rfl (fun zb10 => ?_)
          refine r_if_eq C eX10_wakes_31 (fun c11 => ?_) (fun c11 => ?_)
          · rw [if_pos c11] at hbL7
            refine r_iinc C (v := ((s3.2.1) + 1)) [(3, .int ((s3.2.1) + 1)), (0, .ref (a0 o0)), (1, .int p1), (2, .int (s3.1))] eX10_wakes_68 3 rfl rfl (by decide) rfl ?_
            refine r_goto C eX10_wakes_71 ?_
            refine r_sub (lv' := [(0, .ref (a0 o0)), (1, .int p1), (2, .int (s3.1)), (3, .int ((s3.2.1) + 1))]) [1, 2, 3, 0] rfl ?_
            exact ihL7 ((s3.1), ((s3.2.1) + 1), (s3.2.2.1), (s3.2.2.2)) hbL7
          · rw [if_neg c11] at hbL7
            refine r_aload_n C eX10_wakes_34 0 rfl rfl ?_
            refine r_get (v := .ref (a0 (o0 + 67))) C eX10_wakes_35 FX10_76 0 rfl rfl ?_
            refine r_aload_n C eX10_wakes_38 0 rfl rfl ?_
            refine r_get (v := .ref (a0 (o0 + 25))) C eX10_wakes_39 FX10_40 0 rfl rfl ?_
            refine r_aload_n C eX10_wakes_42 0 rfl rfl ?_
            refine r_get (v := .ref (a0 (o0 + 27))) C eX10_wakes_43 FX10_47 0 rfl rfl ?_
            refine r_aload_n C eX10_wakes_46 0 rfl rfl ?_
            refine r_get (v := .ref (a0 (o0 + 18))) C eX10_wakes_47 FX10_26 0 rfl rfl ?_
            refine r_iload_n C eX10_wakes_50 3 rfl rfl ?_
            obtain ⟨r12, hr12, hbL7⟩ := zbind hbL7
            refine r_V_i (ws' := w_AL (z_g x) a0 o0 (sAL_night v0 (sNi_hours (sNi_ints (gAL_night v0) (s3.2.2.1)) (s3.2.2.2)))) C (c_Sh_lineAlong (z_l x) (z_g x) a0 (o0 + 27) (gAL_ship v0) a0 (o0 + 18) (gAL_quay v0) (s3.2.1) r12 hr12) eX10_wakes_51 MX10_268 ⟨0, 7, _, _, rfl, rfl, rfl⟩ [27, 28, 29, 30, 31, 32, 18, 19, 20] rfl rfl rfl rfl rfl rfl rfl rfl rfl ?_
            refine r_iload_n C eX10_wakes_54 1 rfl rfl ?_
            obtain ⟨r13, hr13, hbL7⟩ := zbind hbL7
            refine r_V_v (ws' := w_AL (z_g x) a0 o0 (sAL_night v0 (sNi_hours (sNi_ints (gAL_night v0) (r13.1)) (r13.2)))) C (c_Ni_tend (z_l x) (z_g x) a0 (o0 + 67) (sNi_hours (sNi_ints (gAL_night v0) (s3.2.2.1)) (s3.2.2.2)) a0 (o0 + 25) (gAL_tide v0) r12 p1 r13 hr13) eX10_wakes_55 MX10_278 ⟨0, 2, _, _, rfl, rfl, rfl⟩ [67, 68, 25, 26] rfl rfl rfl rfl rfl rfl rfl rfl rfl ?_
            refine r_iload_n C eX10_wakes_58 2 rfl rfl ?_
            refine r_aload_n C eX10_wakes_59 0 rfl rfl ?_
            refine r_get (v := .ref (a0 (o0 + 67))) C eX10_wakes_60 FX10_76 0 rfl rfl ?_
            obtain ⟨r14, hr14, hbL7⟩ := zbind hbL7
            refine r_V_i (ws' := w_AL (z_g x) a0 o0 (sAL_night v0 (sNi_hours (sNi_ints (gAL_night v0) (r13.1)) (r13.2)))) C (c_Ni_hoursAsSet (z_l x) (z_g x) a0 (o0 + 67) (sNi_hours (sNi_ints (gAL_night v0) (r13.1)) (r13.2))  r14 hr14) eX10_wakes_63 MX10_286 ⟨0, 2, _, _, rfl, rfl, rfl⟩ [67, 68] rfl rfl rfl rfl rfl rfl rfl rfl rfl ?_
            refine r_ior C eX10_wakes_66 ?_
            obtain ⟨z15, hz15, hbL7⟩ := zlet_of hbL7
            refine r_nami hz15 ?_
            refine r_istore_n C [(2, .int z15), (0, .ref (a0 o0)), (1, .int p1), (3, .int (s3.2.1))] eX10_wakes_67 rfl (by decide) rfl ?_
            refine r_iinc C (v := ((s3.2.1) + 1)) [(3, .int ((s3.2.1) + 1)), (2, .int z15), (0, .ref (a0 o0)), (1, .int p1)] eX10_wakes_68 3 rfl rfl (by decide) rfl ?_
            refine r_goto C eX10_wakes_71 ?_
            refine r_sub (lv' := [(0, .ref (a0 o0)), (1, .int p1), (2, .int z15), (3, .int ((s3.2.1) + 1))]) [2, 3, 1, 0] rfl ?_
            exact ihL7 (z15, ((s3.2.1) + 1), (r13.1), (r13.2)) hbL7
    refine r_sub (lv' := [(0, .ref (a0 o0)), (1, .int p1), (2, .int 0), (3, .int 0)]) [2, 3, 1, 0] rfl ?_
    exact L7 LF (0, 0, (gNi_ints (gAL_night v0)), (gNi_hours (gAL_night v0))) h5
  · rw [if_pos c2] at hf
    refine r_ldc C (v := (-1000000002)) eX10_wakes_7 q424 ?_
    obtain rfl := Option.some.inj (show some (((-1000000002), (gNi_ints (gAL_night v0)), (gNi_hours (gAL_night v0))) : Int32 × (Nat → Int32) × (Nat → Int32)) = some _ from hf)
    exact hret _ _ _ eX10_wakes_9
theorem eX10_wind_0 : zd 1 cX10_wind 0 1 (.iload_n 1) := ⟨by decide +kernel, rfl⟩
theorem eX10_wind_1 : zd 3 cX10_wind 1 4 (.invokestatic 249) := ⟨by decide +kernel, rfl⟩
theorem eX10_wind_4 : zdi cX10_wind 4 7 30 (.ifCond .eq) := ⟨26, by decide +kernel, rfl, by decide⟩
theorem eX10_wind_7 : zd 1 cX10_wind 7 8 (.aload_n 0) := ⟨by decide +kernel, rfl⟩
theorem eX10_wind_8 : zd 3 cX10_wind 8 11 (.getfield 69) := ⟨by decide +kernel, rfl⟩
theorem eX10_wind_11 : zd 1 cX10_wind 11 12 (.aload_n 0) := ⟨by decide +kernel, rfl⟩
theorem eX10_wind_12 : zd 3 cX10_wind 12 15 (.getfield 26) := ⟨by decide +kernel, rfl⟩
theorem eX10_wind_15 : zd 1 cX10_wind 15 16 (.aload_n 0) := ⟨by decide +kernel, rfl⟩
theorem eX10_wind_16 : zd 3 cX10_wind 16 19 (.getfield 47) := ⟨by decide +kernel, rfl⟩
theorem eX10_wind_19 : zd 1 cX10_wind 19 20 (.aload_n 0) := ⟨by decide +kernel, rfl⟩
theorem eX10_wind_20 : zd 3 cX10_wind 20 23 (.getfield 33) := ⟨by decide +kernel, rfl⟩
theorem eX10_wind_23 : zd 1 cX10_wind 23 24 (.iload_n 1) := ⟨by decide +kernel, rfl⟩
theorem eX10_wind_24 : zd 3 cX10_wind 24 27 (.invokevirtual 252) := ⟨by decide +kernel, rfl⟩
theorem eX10_wind_27 : zdi cX10_wind 27 30 32 (.goto) := ⟨5, by decide +kernel, rfl, by decide⟩
theorem eX10_wind_30 : zd 2 cX10_wind 30 32 (.ldc 97) := ⟨by decide +kernel, rfl⟩
theorem eX10_wind_32 : zd 1 cX10_wind 32 33 (.ireturn) := ⟨by decide +kernel, rfl⟩
theorem MX10_252 : zlV RX10 252 yX6_greatestWind cX6_greatestWind 6 ((Option.some FieldType.int)) 4 := ⟨q918, q919, q920, q9, q921, by decide, by decide, by decide +kernel⟩
noncomputable def f_AL_wind (v0 : tAL) (p1 : Int32) : Option (Int32 × (Nat → Int32) × Int64 × (Nat → Int32) × (Nat → Int32) × (Nat → Int32) × (Nat → Int32) × (Nat → Int32) × (Nat → Int32) × (Nat → Int32)) := (if (f_AL_isSearchLength p1) = 0 then (some ((-1000000002), (gSh_ints (gSe_probe (gAL_search v0))), (gSh_harm (gSe_probe (gAL_search v0))), (gLi_fast (gSh_lines (gSe_probe (gAL_search v0)))), (gLi_place (gSh_lines (gSe_probe (gAL_search v0)))), (gLi_post (gSh_lines (gSe_probe (gAL_search v0)))), (gLi_length (gSh_lines (gSe_probe (gAL_search v0)))), (gQu_ints (gSe_other (gAL_search v0))), (gQu_places (gSe_other (gAL_search v0))), (gQu_strengths (gSe_other (gAL_search v0))))) else (Option.bind (f_Se_greatestWind (gAL_search v0) (gAL_quay v0) (gAL_ship v0) (gAL_plan v0) p1) (fun (r3 : Int32 × (Nat → Int32) × Int64 × (Nat → Int32) × (Nat → Int32) × (Nat → Int32) × (Nat → Int32) × (Nat → Int32) × (Nat → Int32) × (Nat → Int32)) => (some ((r3.1), (r3.2.1), (r3.2.2.1), (r3.2.2.2.1), (r3.2.2.2.2.1), (r3.2.2.2.2.2.1), (r3.2.2.2.2.2.2.1), (r3.2.2.2.2.2.2.2.1), (r3.2.2.2.2.2.2.2.2.1), (r3.2.2.2.2.2.2.2.2.2))))))
abbrev rm_AL_wind : Room := { frames := 6, cells := 0, slots := 0, locals := 154 }
set_option maxHeartbeats 4000000 in
set_option maxRecDepth 100000 in
theorem c_AL_wind (l : Launch) (g : zGl) (a0 : Nat → Nat) (o0 : Nat) (v0 : tAL) (p1 : Int32) (out : Int32 × (Nat → Int32) × Int64 × (Nat → Int32) × (Nat → Int32) × (Nat → Int32) × (Nat → Int32) × (Nat → Int32) × (Nat → Int32) × (Nat → Int32)) (hf : f_AL_wind v0 p1 = some out) : zMi l yX10_wind cX10_wind 2 rm_AL_wind g [.ref (a0 o0), .int p1] (w_AL g a0 o0 v0) (out.1) (w_AL g a0 o0 (sAL_search v0 (sSe_other (sSe_probe (gAL_search v0) (sSh_lines (sSh_harm (sSh_ints (gSe_probe (gAL_search v0)) (out.2.1)) (out.2.2.1)) (sLi_length (sLi_post (sLi_place (sLi_fast (gSh_lines (gSe_probe (gAL_search v0))) (out.2.2.2.1)) (out.2.2.2.2.1)) (out.2.2.2.2.2.1)) (out.2.2.2.2.2.2.1)))) (sQu_strengths (sQu_places (sQu_ints (gSe_other (gAL_search v0)) (out.2.2.2.2.2.2.2.1)) (out.2.2.2.2.2.2.2.2.1)) (out.2.2.2.2.2.2.2.2.2))))) := by
  refine zMi_of (lv := [(0, .ref (a0 o0)), (1, .int p1)]) (by decide) (Nat.le_of_ble_eq_true rfl) rfl (fun x hl hg C hret => ?_)
  subst hl; subst hg
  rw [f_AL_wind] at hf
  refine r_iload_n C eX10_wind_0 1 rfl rfl ?_
  refine r_S_z (ws' := w_AL (z_g x) a0 o0 v0) C (c_AL_isSearchLength (z_l x) (z_g x)  p1 _ rfl) eX10_wind_1 MX10_249 [] rfl rfl rfl rfl rfl rfl rfl rfl rfl (fun zb1 => ?_)
  refine r_if_eq C eX10_wind_4 (fun c2 => ?_) (fun c2 => ?_)
  · rw [if_pos c2] at hf
    refine r_ldc C (v := (-1000000002)) eX10_wind_30 q424 ?_
    obtain rfl := Option.some.inj (show some (((-1000000002), (gSh_ints (gSe_probe (gAL_search v0))), (gSh_harm (gSe_probe (gAL_search v0))), (gLi_fast (gSh_lines (gSe_probe (gAL_search v0)))), (gLi_place (gSh_lines (gSe_probe (gAL_search v0)))), (gLi_post (gSh_lines (gSe_probe (gAL_search v0)))), (gLi_length (gSh_lines (gSe_probe (gAL_search v0)))), (gQu_ints (gSe_other (gAL_search v0))), (gQu_places (gSe_other (gAL_search v0))), (gQu_strengths (gSe_other (gAL_search v0)))) : Int32 × (Nat → Int32) × Int64 × (Nat → Int32) × (Nat → Int32) × (Nat → Int32) × (Nat → Int32) × (Nat → Int32) × (Nat → Int32) × (Nat → Int32)) = some _ from hf)
    exact hret _ _ _ eX10_wind_32
  · rw [if_neg c2] at hf
    refine r_aload_n C eX10_wind_7 0 rfl rfl ?_
    refine r_get (v := .ref (a0 (o0 + 51))) C eX10_wind_8 FX10_69 0 rfl rfl ?_
    refine r_aload_n C eX10_wind_11 0 rfl rfl ?_
    refine r_get (v := .ref (a0 (o0 + 18))) C eX10_wind_12 FX10_26 0 rfl rfl ?_
    refine r_aload_n C eX10_wind_15 0 rfl rfl ?_
    refine r_get (v := .ref (a0 (o0 + 27))) C eX10_wind_16 FX10_47 0 rfl rfl ?_
    refine r_aload_n C eX10_wind_19 0 rfl rfl ?_
    refine r_get (v := .ref (a0 (o0 + 21))) C eX10_wind_20 FX10_33 0 rfl rfl ?_
    refine r_iload_n C eX10_wind_23 1 rfl rfl ?_
    obtain ⟨r3, hr3, hf⟩ := zbind hf
    refine r_V_i (ws' := w_AL (z_g x) a0 o0 (sAL_search v0 (sSe_other (sSe_probe (gAL_search v0) (sSh_lines (sSh_harm (sSh_ints (gSe_probe (gAL_search v0)) (r3.2.1)) (r3.2.2.1)) (sLi_length (sLi_post (sLi_place (sLi_fast (gSh_lines (gSe_probe (gAL_search v0))) (r3.2.2.2.1)) (r3.2.2.2.2.1)) (r3.2.2.2.2.2.1)) (r3.2.2.2.2.2.2.1)))) (sQu_strengths (sQu_places (sQu_ints (gSe_other (gAL_search v0)) (r3.2.2.2.2.2.2.2.1)) (r3.2.2.2.2.2.2.2.2.1)) (r3.2.2.2.2.2.2.2.2.2))))) C (c_Se_greatestWind (z_l x) (z_g x) a0 (o0 + 51) (gAL_search v0) a0 (o0 + 18) (gAL_quay v0) a0 (o0 + 27) (gAL_ship v0) a0 (o0 + 21) (gAL_plan v0) p1 r3 hr3) eX10_wind_24 MX10_252 ⟨0, 6, _, _, rfl, rfl, rfl⟩ [51, 52, 53, 54, 55, 56, 57, 58, 59, 60, 61, 62, 63, 64, 65, 66, 18, 19, 20, 27, 28, 29, 30, 31, 32, 21, 22, 23, 24] rfl rfl rfl rfl rfl rfl rfl rfl rfl ?_
    refine r_goto C eX10_wind_27 ?_
    obtain rfl := Option.some.inj (show some (((r3.1), (r3.2.1), (r3.2.2.1), (r3.2.2.2.1), (r3.2.2.2.2.1), (r3.2.2.2.2.2.1), (r3.2.2.2.2.2.2.1), (r3.2.2.2.2.2.2.2.1), (r3.2.2.2.2.2.2.2.2.1), (r3.2.2.2.2.2.2.2.2.2)) : Int32 × (Nat → Int32) × Int64 × (Nat → Int32) × (Nat → Int32) × (Nat → Int32) × (Nat → Int32) × (Nat → Int32) × (Nat → Int32) × (Nat → Int32)) = some _ from hf)
    exact hret _ _ _ eX10_wind_32
