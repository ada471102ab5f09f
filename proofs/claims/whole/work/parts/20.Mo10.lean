theorem eX11_tried_0 : zd 1 cX11_tried 0 1 (.iload_n 1) := ⟨by decide +kernel, rfl⟩
theorem eX11_tried_1 : zd 1 cX11_tried 1 2 (.i2l) := ⟨by decide +kernel, rfl⟩
theorem eX11_tried_2 : zd 1 cX11_tried 2 3 (.lconst 1) := ⟨by decide +kernel, rfl⟩
theorem eX11_tried_3 : zd 3 cX11_tried 3 6 (.ldc2_w 310) := ⟨by decide +kernel, rfl⟩
theorem eX11_tried_6 : zd 3 cX11_tried 6 9 (.invokestatic 86) := ⟨by decide +kernel, rfl⟩
theorem eX11_tried_9 : zdi cX11_tried 9 12 19 (.ifCond .eq) := ⟨10, by decide +kernel, rfl, by decide⟩
theorem eX11_tried_12 : zd 1 cX11_tried 12 13 (.iload_n 2) := ⟨by decide +kernel, rfl⟩
theorem eX11_tried_13 : zd 3 cX11_tried 13 16 (.invokestatic 353) := ⟨by decide +kernel, rfl⟩
theorem eX11_tried_16 : zdi cX11_tried 16 19 23 (.ifCond .ne) := ⟨7, by decide +kernel, rfl, by decide⟩
theorem eX11_tried_19 : zd 3 cX11_tried 19 22 (.ldc2_w 308) := ⟨by decide +kernel, rfl⟩
theorem eX11_tried_22 : zd 1 cX11_tried 22 23 (.lreturn) := ⟨by decide +kernel, rfl⟩
theorem eX11_tried_23 : zd 1 cX11_tried 23 24 (.aload_n 0) := ⟨by decide +kernel, rfl⟩
theorem eX11_tried_24 : zd 3 cX11_tried 24 27 (.invokevirtual 356) := ⟨by decide +kernel, rfl⟩
theorem eX11_tried_27 : zd 1 cX11_tried 27 28 (.aload_n 0) := ⟨by decide +kernel, rfl⟩
theorem eX11_tried_28 : zd 1 cX11_tried 28 29 (.iload_n 1) := ⟨by decide +kernel, rfl⟩
theorem eX11_tried_29 : zd 3 cX11_tried 29 32 (.invokevirtual 318) := ⟨by decide +kernel, rfl⟩
theorem eX11_tried_32 : zd 1 cX11_tried 32 33 (.istore_n 3) := ⟨by decide +kernel, rfl⟩
theorem eX11_tried_33 : zd 1 cX11_tried 33 34 (.iload_n 2) := ⟨by decide +kernel, rfl⟩
theorem eX11_tried_34 : zd 2 cX11_tried 34 36 (.bipush 17) := ⟨by decide +kernel, rfl⟩
theorem eX11_tried_36 : zdi cX11_tried 36 39 47 (.if_icmp .ne) := ⟨11, by decide +kernel, rfl, by decide⟩
theorem eX11_tried_39 : zd 1 cX11_tried 39 40 (.aload_n 0) := ⟨by decide +kernel, rfl⟩
theorem eX11_tried_40 : zd 3 cX11_tried 40 43 (.invokevirtual 300) := ⟨by decide +kernel, rfl⟩
theorem eX11_tried_43 : zd 1 cX11_tried 43 44 (.i2l) := ⟨by decide +kernel, rfl⟩
theorem eX11_tried_44 : zdi cX11_tried 44 47 52 (.goto) := ⟨8, by decide +kernel, rfl, by decide⟩
theorem eX11_tried_47 : zd 1 cX11_tried 47 48 (.aload_n 0) := ⟨by decide +kernel, rfl⟩
theorem eX11_tried_48 : zd 1 cX11_tried 48 49 (.iload_n 2) := ⟨by decide +kernel, rfl⟩
theorem eX11_tried_49 : zd 3 cX11_tried 49 52 (.invokevirtual 305) := ⟨by decide +kernel, rfl⟩
theorem eX11_tried_52 : zd 2 cX11_tried 52 54 (.lstore 4) := ⟨by decide +kernel, rfl⟩
theorem eX11_tried_54 : zd 1 cX11_tried 54 55 (.aload_n 0) := ⟨by decide +kernel, rfl⟩
theorem eX11_tried_55 : zd 3 cX11_tried 55 58 (.invokevirtual 359) := ⟨by decide +kernel, rfl⟩
theorem eX11_tried_58 : zd 2 cX11_tried 58 60 (.lload 4) := ⟨by decide +kernel, rfl⟩
theorem eX11_tried_60 : zd 1 cX11_tried 60 61 (.lreturn) := ⟨by decide +kernel, rfl⟩
theorem MX11_353 : zlS RX11 353 yX11_isTried cX11_isTried 1 ((Option.some FieldType.boolean)) 1 := ⟨q1453, q1454, q12, q1455, by decide, by decide, by decide +kernel⟩
noncomputable def f_Mo_tried (v0 : tMo) (p1 : Int32) (p2 : Int32) : Option (Int64 × (Nat → Int64) × (Nat → Int32) × (Nat → Int32) × (Nat → Int64) × (Nat → Int32)) := (if (f_Mo_in p1.toInt64 1 600) = 0 then (some ((-1000000002), (gMo_ship v0), (gMo_lines v0), (gMo_parting v0), (gMo_wasShip v0), (gMo_wasLines v0))) else (if (f_Mo_isTried p2) = 0 then (some ((-1000000002), (gMo_ship v0), (gMo_lines v0), (gMo_parting v0), (gMo_wasShip v0), (gMo_wasLines v0))) else (Option.bind (f_Mo_save v0) (fun (r5 : (Nat → Int64) × (Nat → Int32)) => (Option.bind (f_Mo_byPlan ((gMo_ints v0), (gMo_told v0), (gMo_postX v0), (gMo_postStrong v0), (gMo_atRow v0), (gMo_heights v0), (gMo_ship v0), (gMo_lines v0), (gMo_text v0), (gMo_said v0), (gMo_readTold v0), (gMo_readX v0), (gMo_readStrong v0), (gMo_readRow v0), (gMo_parting v0), (r5.1), (r5.2), (gMo_worst v0), (gMo_logRow v0), (gMo_images v0), (gMo_isKept v0)) p1) (fun (r6 : Int32 × (Nat → Int64) × (Nat → Int32) × (Nat → Int32)) => (Option.bind (if p2 = 17 then (Option.bind (f_Mo_fastMany ((gMo_ints v0), (gMo_told v0), (gMo_postX v0), (gMo_postStrong v0), (gMo_atRow v0), (gMo_heights v0), (r6.2.1), (r6.2.2.1), (gMo_text v0), (gMo_said v0), (gMo_readTold v0), (gMo_readX v0), (gMo_readStrong v0), (gMo_readRow v0), (r6.2.2.2), (r5.1), (r5.2), (gMo_worst v0), (gMo_logRow v0), (gMo_images v0), (gMo_isKept v0))) (fun (r10 : Int32) => (some r10.toInt64))) else (Option.bind (f_Mo_nowOf ((gMo_ints v0), (gMo_told v0), (gMo_postX v0), (gMo_postStrong v0), (gMo_atRow v0), (gMo_heights v0), (r6.2.1), (r6.2.2.1), (gMo_text v0), (gMo_said v0), (gMo_readTold v0), (gMo_readX v0), (gMo_readStrong v0), (gMo_readRow v0), (r6.2.2.2), (r5.1), (r5.2), (gMo_worst v0), (gMo_logRow v0), (gMo_images v0), (gMo_isKept v0)) p2) (fun (r11 : Int64) => (some r11)))) (fun (w7 : Int64) => (Option.bind (f_Mo_back ((gMo_ints v0), (gMo_told v0), (gMo_postX v0), (gMo_postStrong v0), (gMo_atRow v0), (gMo_heights v0), (r6.2.1), (r6.2.2.1), (gMo_text v0), (gMo_said v0), (gMo_readTold v0), (gMo_readX v0), (gMo_readStrong v0), (gMo_readRow v0), (r6.2.2.2), (r5.1), (r5.2), (gMo_worst v0), (gMo_logRow v0), (gMo_images v0), (gMo_isKept v0))) (fun (r12 : (Nat → Int64) × (Nat → Int32)) => (some (w7, (r12.1), (r12.2), (r6.2.2.2), (r5.1), (r5.2)))))))))))))
abbrev rm_Mo_tried : Room := { frames := 8, cells := 0, slots := 0, locals := 196 }
set_option maxHeartbeats 4000000 in
set_option maxRecDepth 100000 in
theorem c_Mo_tried (l : Launch) (g : zGl) (a0 : Nat → Nat) (o0 : Nat) (v0 : tMo) (p1 : Int32) (p2 : Int32) (out : Int64 × (Nat → Int64) × (Nat → Int32) × (Nat → Int32) × (Nat → Int64) × (Nat → Int32)) (hf : f_Mo_tried v0 p1 p2 = some out) : zMl l yX11_tried cX11_tried 6 rm_Mo_tried g [.ref (a0 o0), .int p1, .int p2] (W_Mo g a0 o0 (gMo_ints v0) (gMo_told v0) (gMo_postX v0) (gMo_postStrong v0) (gMo_atRow v0) (gMo_heights v0) (gMo_ship v0) (gMo_lines v0) (gMo_text v0) (gMo_said v0) (gMo_readTold v0) (gMo_readX v0) (gMo_readStrong v0) (gMo_readRow v0) (gMo_parting v0) (gMo_wasShip v0) (gMo_wasLines v0) (gMo_worst v0) (gMo_logRow v0) (gMo_images v0) (gMo_isKept v0)) (out.1) (W_Mo g a0 o0 (gMo_ints v0) (gMo_told v0) (gMo_postX v0) (gMo_postStrong v0) (gMo_atRow v0) (gMo_heights v0) (out.2.1) (out.2.2.1) (gMo_text v0) (gMo_said v0) (gMo_readTold v0) (gMo_readX v0) (gMo_readStrong v0) (gMo_readRow v0) (out.2.2.2.1) (out.2.2.2.2.1) (out.2.2.2.2.2) (gMo_worst v0) (gMo_logRow v0) (gMo_images v0) (gMo_isKept v0)) := by
  refine zMl_of (lv := [(0, .ref (a0 o0)), (1, .int p1), (2, .int p2)]) (by decide) (Nat.le_of_ble_eq_true rfl) rfl (fun x hl hg C hret => ?_)
  subst hl; subst hg
  rw [f_Mo_tried] at hf
  refine r_iload_n C eX11_tried_0 1 rfl rfl ?_
  refine r_i2l C eX11_tried_1 ?_
  refine r_lconst C (v := 1) eX11_tried_2 (by decide) ?_
  refine r_ldc2 C (v := 600) eX11_tried_3 q1339 ?_
  refine r_S_z (ws' := W_Mo (z_g x) a0 o0 (gMo_ints v0) (gMo_told v0) (gMo_postX v0) (gMo_postStrong v0) (gMo_atRow v0) (gMo_heights v0) (gMo_ship v0) (gMo_lines v0) (gMo_text v0) (gMo_said v0) (gMo_readTold v0) (gMo_readX v0) (gMo_readStrong v0) (gMo_readRow v0) (gMo_parting v0) (gMo_wasShip v0) (gMo_wasLines v0) (gMo_worst v0) (gMo_logRow v0) (gMo_images v0) (gMo_isKept v0)) C (c_Mo_in (z_l x) (z_g x)  p1.toInt64 1 600 _ rfl) eX11_tried_6 MX11_86 [] rfl rfl rfl rfl [0, 1, 2, 3, 4, 5, 6, 7, 8, 9, 10, 11, 12, 13, 14, 15, 16, 17, 18, 19] rfl ⟨rfl, rfl, rfl, rfl, rfl, rfl, rfl, rfl, rfl, rfl, rfl, rfl, rfl, rfl, rfl, rfl, rfl, rfl, rfl, rfl, trivial⟩ 20 rfl rfl rfl rfl rfl rfl (fun zb1 => ?_)
  refine r_if_eq C eX11_tried_9 (fun c2 => ?_) (fun c2 => ?_)
  · rw [if_pos c2] at hf
    refine r_ldc2 C (v := (-1000000002)) eX11_tried_19 q1334 ?_
    obtain rfl := Option.some.inj (show some (((-1000000002), (gMo_ship v0), (gMo_lines v0), (gMo_parting v0), (gMo_wasShip v0), (gMo_wasLines v0)) : Int64 × (Nat → Int64) × (Nat → Int32) × (Nat → Int32) × (Nat → Int64) × (Nat → Int32)) = some _ from hf)
    exact hret _ _ _ eX11_tried_22
  · rw [if_neg c2] at hf
    refine r_iload_n C eX11_tried_12 2 rfl rfl ?_
    refine r_S_z (ws' := W_Mo (z_g x) a0 o0 (gMo_ints v0) (gMo_told v0) (gMo_postX v0) (gMo_postStrong v0) (gMo_atRow v0) (gMo_heights v0) (gMo_ship v0) (gMo_lines v0) (gMo_text v0) (gMo_said v0) (gMo_readTold v0) (gMo_readX v0) (gMo_readStrong v0) (gMo_readRow v0) (gMo_parting v0) (gMo_wasShip v0) (gMo_wasLines v0) (gMo_worst v0) (gMo_logRow v0) (gMo_images v0) (gMo_isKept v0)) C (c_Mo_isTried (z_l x) (z_g x)  p2 _ rfl) eX11_tried_13 MX11_353 [] rfl rfl rfl rfl [0, 1, 2, 3, 4, 5, 6, 7, 8, 9, 10, 11, 12, 13, 14, 15, 16, 17, 18, 19] rfl ⟨rfl, rfl, rfl, rfl, rfl, rfl, rfl, rfl, rfl, rfl, rfl, rfl, rfl, rfl, rfl, rfl, rfl, rfl, rfl, rfl, trivial⟩ 20 rfl rfl rfl rfl rfl rfl (fun zb3 => ?_)
    refine r_if_ne C eX11_tried_16 (fun c4 => ?_) (fun c4 => ?_)
    · rw [if_neg c4] at hf
      refine r_aload_n C eX11_tried_23 0 rfl rfl ?_
      obtain ⟨r5, hr5, hf⟩ := zbind hf
      refine r_V_v (ws' := W_Mo (z_g x) a0 o0 (gMo_ints v0) (gMo_told v0) (gMo_postX v0) (gMo_postStrong v0) (gMo_atRow v0) (gMo_heights v0) (gMo_ship v0) (gMo_lines v0) (gMo_text v0) (gMo_said v0) (gMo_readTold v0) (gMo_readX v0) (gMo_readStrong v0) (gMo_readRow v0) (gMo_parting v0) (r5.1) (r5.2) (gMo_worst v0) (gMo_logRow v0) (gMo_images v0) (gMo_isKept v0)) C (c_Mo_save (z_l x) (z_g x) a0 o0 v0  r5 hr5) eX11_tried_24 MX11_356 ⟨0, 11, _, _, rfl, rfl, rfl⟩ [0, 1, 2, 3, 4, 5, 6, 7, 8, 9, 10, 11, 12, 13, 14, 15, 16, 17, 18, 19] rfl rfl rfl rfl [] rfl trivial 20 rfl rfl rfl rfl rfl rfl ?_
      refine r_aload_n C eX11_tried_27 0 rfl rfl ?_
      refine r_iload_n C eX11_tried_28 1 rfl rfl ?_
      obtain ⟨r6, hr6, hf⟩ := zbind hf
      refine r_V_i (ws' := W_Mo (z_g x) a0 o0 (gMo_ints v0) (gMo_told v0) (gMo_postX v0) (gMo_postStrong v0) (gMo_atRow v0) (gMo_heights v0) (r6.2.1) (r6.2.2.1) (gMo_text v0) (gMo_said v0) (gMo_readTold v0) (gMo_readX v0) (gMo_readStrong v0) (gMo_readRow v0) (r6.2.2.2) (r5.1) (r5.2) (gMo_worst v0) (gMo_logRow v0) (gMo_images v0) (gMo_isKept v0)) C (c_Mo_byPlan (z_l x) (z_g x) a0 o0 ((gMo_ints v0), (gMo_told v0), (gMo_postX v0), (gMo_postStrong v0), (gMo_atRow v0), (gMo_heights v0), (gMo_ship v0), (gMo_lines v0), (gMo_text v0), (gMo_said v0), (gMo_readTold v0), (gMo_readX v0), (gMo_readStrong v0), (gMo_readRow v0), (gMo_parting v0), (r5.1), (r5.2), (gMo_worst v0), (gMo_logRow v0), (gMo_images v0), (gMo_isKept v0)) p1 r6 hr6) eX11_tried_29 MX11_318 ⟨0, 11, _, _, rfl, rfl, rfl⟩ [0, 1, 2, 3, 4, 5, 6, 7, 8, 9, 10, 11, 12, 13, 14, 15, 16, 17, 18, 19] rfl rfl rfl rfl [] rfl trivial 20 rfl rfl rfl rfl rfl rfl ?_
      refine r_istore_n C [(3, .int (r6.1)), (0, .ref (a0 o0)), (1, .int p1), (2, .int p2)] eX11_tried_32 rfl (by decide) rfl ?_
      refine r_iload_n C eX11_tried_33 3 rfl rfl ?_
      refine r_bipush C (v := 17) eX11_tried_34 (by decide) ?_
      obtain ⟨w7, hw7, hf⟩ := zbind hf
      have J8 : vV x 6 0 0 (W_Mo (z_g x) a0 o0 (gMo_ints v0) (gMo_told v0) (gMo_postX v0) (gMo_postStrong v0) (gMo_atRow v0) (gMo_heights v0) (r6.2.1) (r6.2.2.1) (gMo_text v0) (gMo_said v0) (gMo_readTold v0) (gMo_readX v0) (gMo_readStrong v0) (gMo_readRow v0) (r6.2.2.2) (r5.1) (r5.2) (gMo_worst v0) (gMo_logRow v0) (gMo_images v0) (gMo_isKept v0)) 52 [(0, .ref (a0 o0))] [.long w7] := by
        refine r_lstore C [(4, .long w7), (0, .ref (a0 o0))] eX11_tried_52 (by decide) rfl ?_
        refine r_aload_n C eX11_tried_54 1 rfl rfl ?_
        obtain ⟨r12, hr12, hf⟩ := zbind hf
        refine r_V_v (ws' := W_Mo (z_g x) a0 o0 (gMo_ints v0) (gMo_told v0) (gMo_postX v0) (gMo_postStrong v0) (gMo_atRow v0) (gMo_heights v0) (r12.1) (r12.2) (gMo_text v0) (gMo_said v0) (gMo_readTold v0) (gMo_readX v0) (gMo_readStrong v0) (gMo_readRow v0) (r6.2.2.2) (r5.1) (r5.2) (gMo_worst v0) (gMo_logRow v0) (gMo_images v0) (gMo_isKept v0)) C (c_Mo_back (z_l x) (z_g x) a0 o0 ((gMo_ints v0), (gMo_told v0), (gMo_postX v0), (gMo_postStrong v0), (gMo_atRow v0), (gMo_heights v0), (r6.2.1), (r6.2.2.1), (gMo_text v0), (gMo_said v0), (gMo_readTold v0), (gMo_readX v0), (gMo_readStrong v0), (gMo_readRow v0), (r6.2.2.2), (r5.1), (r5.2), (gMo_worst v0), (gMo_logRow v0), (gMo_images v0), (gMo_isKept v0))  r12 hr12) eX11_tried_55 MX11_359 ⟨0, 11, _, _, rfl, rfl, rfl⟩ [0, 1, 2, 3, 4, 5, 6, 7, 8, 9, 10, 11, 12, 13, 14, 15, 16, 17, 18, 19] rfl rfl rfl rfl [] rfl trivial 20 rfl rfl rfl rfl rfl rfl ?_
        refine r_lload C eX11_tried_58 0 rfl ?_
        obtain rfl := Option.some.inj (show some ((w7, (r12.1), (r12.2), (r6.2.2.2), (r5.1), (r5.2)) : Int64 × (Nat → Int64) × (Nat → Int32) × (Nat → Int32) × (Nat → Int64) × (Nat → Int32)) = some _ from hf)
        exact hret _ _ _ eX11_tried_60
      refine r_icmp_ne C eX11_tried_36 (fun c9 => ?_) (fun c9 => ?_)
      · rw [if_neg c9] at hw7
        refine r_aload_n C eX11_tried_47 1 rfl rfl ?_
        refine r_iload_n C eX11_tried_48 3 rfl rfl ?_
        obtain ⟨r11, hr11, hw7⟩ := zbind hw7
        refine r_V_l (ws' := W_Mo (z_g x) a0 o0 (gMo_ints v0) (gMo_told v0) (gMo_postX v0) (gMo_postStrong v0) (gMo_atRow v0) (gMo_heights v0) (r6.2.1) (r6.2.2.1) (gMo_text v0) (gMo_said v0) (gMo_readTold v0) (gMo_readX v0) (gMo_readStrong v0) (gMo_readRow v0) (r6.2.2.2) (r5.1) (r5.2) (gMo_worst v0) (gMo_logRow v0) (gMo_images v0) (gMo_isKept v0)) C (c_Mo_nowOf (z_l x) (z_g x) a0 o0 ((gMo_ints v0), (gMo_told v0), (gMo_postX v0), (gMo_postStrong v0), (gMo_atRow v0), (gMo_heights v0), (r6.2.1), (r6.2.2.1), (gMo_text v0), (gMo_said v0), (gMo_readTold v0), (gMo_readX v0), (gMo_readStrong v0), (gMo_readRow v0), (r6.2.2.2), (r5.1), (r5.2), (gMo_worst v0), (gMo_logRow v0), (gMo_images v0), (gMo_isKept v0)) p2 r11 hr11) eX11_tried_49 MX11_305 ⟨0, 11, _, _, rfl, rfl, rfl⟩ [0, 1, 2, 3, 4, 5, 6, 7, 8, 9, 10, 11, 12, 13, 14, 15, 16, 17, 18, 19] rfl rfl rfl rfl [] rfl trivial 20 rfl rfl rfl rfl rfl rfl ?_
        obtain rfl := Option.some.inj hw7
        refine r_sub (lv' := [(0, .ref (a0 o0))]) [1] rfl ?_
        exact J8 
      · rw [if_pos c9] at hw7
        refine r_aload_n C eX11_tried_39 1 rfl rfl ?_
        obtain ⟨r10, hr10, hw7⟩ := zbind hw7
        refine r_V_i (ws' := W_Mo (z_g x) a0 o0 (gMo_ints v0) (gMo_told v0) (gMo_postX v0) (gMo_postStrong v0) (gMo_atRow v0) (gMo_heights v0) (r6.2.1) (r6.2.2.1) (gMo_text v0) (gMo_said v0) (gMo_readTold v0) (gMo_readX v0) (gMo_readStrong v0) (gMo_readRow v0) (r6.2.2.2) (r5.1) (r5.2) (gMo_worst v0) (gMo_logRow v0) (gMo_images v0) (gMo_isKept v0)) C (c_Mo_fastMany (z_l x) (z_g x) a0 o0 ((gMo_ints v0), (gMo_told v0), (gMo_postX v0), (gMo_postStrong v0), (gMo_atRow v0), (gMo_heights v0), (r6.2.1), (r6.2.2.1), (gMo_text v0), (gMo_said v0), (gMo_readTold v0), (gMo_readX v0), (gMo_readStrong v0), (gMo_readRow v0), (r6.2.2.2), (r5.1), (r5.2), (gMo_worst v0), (gMo_logRow v0), (gMo_images v0), (gMo_isKept v0))  r10 hr10) eX11_tried_40 MX11_300 ⟨0, 11, _, _, rfl, rfl, rfl⟩ [0, 1, 2, 3, 4, 5, 6, 7, 8, 9, 10, 11, 12, 13, 14, 15, 16, 17, 18, 19] rfl rfl rfl rfl [] rfl trivial 20 rfl rfl rfl rfl rfl rfl ?_
        refine r_i2l C eX11_tried_43 ?_
        refine r_goto C eX11_tried_44 ?_
        obtain rfl := Option.some.inj hw7
        refine r_sub (lv' := [(0, .ref (a0 o0))]) [1] rfl ?_
        exact J8 
    · rw [if_pos c4] at hf
      refine r_ldc2 C (v := (-1000000002)) eX11_tried_19 q1334 ?_
      obtain rfl := Option.some.inj (show some (((-1000000002), (gMo_ship v0), (gMo_lines v0), (gMo_parting v0), (gMo_wasShip v0), (gMo_wasLines v0)) : Int64 × (Nat → Int64) × (Nat → Int32) × (Nat → Int32) × (Nat → Int64) × (Nat → Int32)) = some _ from hf)
      exact hret _ _ _ eX11_tried_22
theorem eX11_tug_0 : zd 1 cX11_tug 0 1 (.iload_n 1) := ⟨by decide +kernel, rfl⟩
theorem eX11_tug_1 : zd 3 cX11_tug 1 4 (.invokestatic 373) := ⟨by decide +kernel, rfl⟩
theorem eX11_tug_4 : zdi cX11_tug 4 7 10 (.ifCond .ne) := ⟨6, by decide +kernel, rfl, by decide⟩
theorem eX11_tug_7 : zd 2 cX11_tug 7 9 (.ldc 90) := ⟨by decide +kernel, rfl⟩
theorem eX11_tug_9 : zd 1 cX11_tug 9 10 (.ireturn) := ⟨by decide +kernel, rfl⟩
theorem eX11_tug_10 : zd 1 cX11_tug 10 11 (.aload_n 0) := ⟨by decide +kernel, rfl⟩
theorem eX11_tug_11 : zd 3 cX11_tug 11 14 (.invokevirtual 356) := ⟨by decide +kernel, rfl⟩
theorem eX11_tug_14 : zd 1 cX11_tug 14 15 (.iconst (-1)) := ⟨by decide +kernel, rfl⟩
theorem eX11_tug_15 : zd 1 cX11_tug 15 16 (.istore_n 2) := ⟨by decide +kernel, rfl⟩
theorem eX11_tug_16 : zd 1 cX11_tug 16 17 (.iconst 0) := ⟨by decide +kernel, rfl⟩
theorem eX11_tug_17 : zd 1 cX11_tug 17 18 (.istore_n 3) := ⟨by decide +kernel, rfl⟩
theorem eX11_tug_18 : zd 1 cX11_tug 18 19 (.iload_n 3) := ⟨by decide +kernel, rfl⟩
theorem eX11_tug_19 : zd 2 cX11_tug 19 21 (.bipush 99) := ⟨by decide +kernel, rfl⟩
theorem eX11_tug_21 : zdi cX11_tug 21 24 57 (.if_icmp .gt) := ⟨36, by decide +kernel, rfl, by decide⟩
theorem eX11_tug_24 : zd 1 cX11_tug 24 25 (.iload_n 2) := ⟨by decide +kernel, rfl⟩
theorem eX11_tug_25 : zdi cX11_tug 25 28 57 (.ifCond .ge) := ⟨32, by decide +kernel, rfl, by decide⟩
theorem eX11_tug_28 : zd 1 cX11_tug 28 29 (.aload_n 0) := ⟨by decide +kernel, rfl⟩
theorem eX11_tug_29 : zd 3 cX11_tug 29 32 (.getfield 25) := ⟨by decide +kernel, rfl⟩
theorem eX11_tug_32 : zd 2 cX11_tug 32 34 (.bipush 8) := ⟨by decide +kernel, rfl⟩
theorem eX11_tug_34 : zd 1 cX11_tug 34 35 (.iload_n 3) := ⟨by decide +kernel, rfl⟩
theorem eX11_tug_35 : zd 1 cX11_tug 35 36 (.i2l) := ⟨by decide +kernel, rfl⟩
theorem eX11_tug_36 : zd 1 cX11_tug 36 37 (.lastore) := ⟨by decide +kernel, rfl⟩
theorem eX11_tug_37 : zd 1 cX11_tug 37 38 (.aload_n 0) := ⟨by decide +kernel, rfl⟩
theorem eX11_tug_38 : zd 1 cX11_tug 38 39 (.iload_n 1) := ⟨by decide +kernel, rfl⟩
theorem eX11_tug_39 : zd 3 cX11_tug 39 42 (.invokevirtual 376) := ⟨by decide +kernel, rfl⟩
theorem eX11_tug_42 : zdi cX11_tug 42 45 49 (.ifCond .eq) := ⟨7, by decide +kernel, rfl, by decide⟩
theorem eX11_tug_45 : zd 1 cX11_tug 45 46 (.iload_n 3) := ⟨by decide +kernel, rfl⟩
theorem eX11_tug_46 : zdi cX11_tug 46 49 50 (.goto) := ⟨4, by decide +kernel, rfl, by decide⟩
theorem eX11_tug_49 : zd 1 cX11_tug 49 50 (.iconst (-1)) := ⟨by decide +kernel, rfl⟩
theorem eX11_tug_50 : zd 1 cX11_tug 50 51 (.istore_n 2) := ⟨by decide +kernel, rfl⟩
theorem eX11_tug_51 : zd 3 cX11_tug 51 54 (.iinc 3 1) := ⟨by decide +kernel, rfl⟩
theorem eX11_tug_54 : zdi cX11_tug 54 57 18 (.goto) := ⟨(-36), by decide +kernel, rfl, by decide⟩
theorem eX11_tug_57 : zd 1 cX11_tug 57 58 (.iload_n 2) := ⟨by decide +kernel, rfl⟩
theorem eX11_tug_58 : zd 1 cX11_tug 58 59 (.ireturn) := ⟨by decide +kernel, rfl⟩
noncomputable def fB_Mo_tug_18 (v0 : tMo) (p1 : Int32) (r3 : (Nat → Int64) × (Nat → Int32)) (ih : (Int32 × Int32 × (Nat → Int64) × (Nat → Int32) × (Nat → Int32)) → Option (Int32 × Int32 × (Nat → Int64) × (Nat → Int32) × (Nat → Int32))) (s4 : Int32 × Int32 × (Nat → Int64) × (Nat → Int32) × (Nat → Int32)) : Option (Int32 × Int32 × (Nat → Int64) × (Nat → Int32) × (Nat → Int32)) := (if 99 < (s4.2.1) then (some ((s4.1), (s4.2.1), (s4.2.2.1), (s4.2.2.2.1), (s4.2.2.2.2))) else (if 0 ≤ (s4.1) then (some ((s4.1), (s4.2.1), (s4.2.2.1), (s4.2.2.2.1), (s4.2.2.2.2))) else (zlet (s4.2.1).toInt64 (fun (z11 : Int64) => (Option.bind (f_Mo_isIn ((gMo_ints v0), (gMo_told v0), (gMo_postX v0), (gMo_postStrong v0), (gMo_atRow v0), (gMo_heights v0), (vp_updL (s4.2.2.1) 8 z11), (s4.2.2.2.1), (gMo_text v0), (gMo_said v0), (gMo_readTold v0), (gMo_readX v0), (gMo_readStrong v0), (gMo_readRow v0), (s4.2.2.2.2), (r3.1), (r3.2), (gMo_worst v0), (gMo_logRow v0), (gMo_images v0), (gMo_isKept v0)) p1) (fun (r12 : Int32 × (Nat → Int64) × (Nat → Int32) × (Nat → Int32)) => (if (r12.1) = 0 then (ih ((-1), ((s4.2.1) + 1), (r12.2.1), (r12.2.2.1), (r12.2.2.2))) else (ih ((s4.2.1), ((s4.2.1) + 1), (r12.2.1), (r12.2.2.1), (r12.2.2.2))))))))))
noncomputable def f_Mo_tug (v0 : tMo) (p1 : Int32) : Option (Int32 × (Nat → Int64) × (Nat → Int32) × (Nat → Int32) × (Nat → Int64) × (Nat → Int32)) := (if (f_Mo_isSpan p1) = 0 then (some ((-1000000002), (gMo_ship v0), (gMo_lines v0), (gMo_parting v0), (gMo_wasShip v0), (gMo_wasLines v0))) else (Option.bind (f_Mo_save v0) (fun (r3 : (Nat → Int64) × (Nat → Int32)) => (Option.bind (lp (fB_Mo_tug_18 v0 p1 r3) LF ((-1), 0, (gMo_ship v0), (gMo_lines v0), (gMo_parting v0))) (fun (q5 : Int32 × Int32 × (Nat → Int64) × (Nat → Int32) × (Nat → Int32)) => (some ((q5.1), (q5.2.2.1), (q5.2.2.2.1), (q5.2.2.2.2), (r3.1), (r3.2))))))))
abbrev rm_Mo_tug : Room := { frames := 9, cells := 0, slots := 0, locals := 219 }
set_option maxHeartbeats 4000000 in
set_option maxRecDepth 100000 in
theorem c_Mo_tug (l : Launch) (g : zGl) (a0 : Nat → Nat) (o0 : Nat) (v0 : tMo) (p1 : Int32) (out : Int32 × (Nat → Int64) × (Nat → Int32) × (Nat → Int32) × (Nat → Int64) × (Nat → Int32)) (hf : f_Mo_tug v0 p1 = some out) : zMi l yX11_tug cX11_tug 4 rm_Mo_tug g [.ref (a0 o0), .int p1] (W_Mo g a0 o0 (gMo_ints v0) (gMo_told v0) (gMo_postX v0) (gMo_postStrong v0) (gMo_atRow v0) (gMo_heights v0) (gMo_ship v0) (gMo_lines v0) (gMo_text v0) (gMo_said v0) (gMo_readTold v0) (gMo_readX v0) (gMo_readStrong v0) (gMo_readRow v0) (gMo_parting v0) (gMo_wasShip v0) (gMo_wasLines v0) (gMo_worst v0) (gMo_logRow v0) (gMo_images v0) (gMo_isKept v0)) (out.1) (W_Mo g a0 o0 (gMo_ints v0) (gMo_told v0) (gMo_postX v0) (gMo_postStrong v0) (gMo_atRow v0) (gMo_heights v0) (out.2.1) (out.2.2.1) (gMo_text v0) (gMo_said v0) (gMo_readTold v0) (gMo_readX v0) (gMo_readStrong v0) (gMo_readRow v0) (out.2.2.2.1) (out.2.2.2.2.1) (out.2.2.2.2.2) (gMo_worst v0) (gMo_logRow v0) (gMo_images v0) (gMo_isKept v0)) := by
  refine zMi_of (lv := [(0, .ref (a0 o0)), (1, .int p1)]) (by decide) (Nat.le_of_ble_eq_true rfl) rfl (fun x hl hg C hret => ?_)
  subst hl; subst hg
  rw [f_Mo_tug] at hf
  refine r_iload_n C eX11_tug_0 1 rfl rfl ?_
  refine r_S_z (ws' := W_Mo (z_g x) a0 o0 (gMo_ints v0) (gMo_told v0) (gMo_postX v0) (gMo_postStrong v0) (gMo_atRow v0) (gMo_heights v0) (gMo_ship v0) (gMo_lines v0) (gMo_text v0) (gMo_said v0) (gMo_readTold v0) (gMo_readX v0) (gMo_readStrong v0) (gMo_readRow v0) (gMo_parting v0) (gMo_wasShip v0) (gMo_wasLines v0) (gMo_worst v0) (gMo_logRow v0) (gMo_images v0) (gMo_isKept v0)) C (c_Mo_isSpan (z_l x) (z_g x)  p1 _ rfl) eX11_tug_1 MX11_373 [] rfl rfl rfl rfl [0, 1, 2, 3, 4, 5, 6, 7, 8, 9, 10, 11, 12, 13, 14, 15, 16, 17, 18, 19] rfl ⟨rfl, rfl, rfl, rfl, rfl, rfl, rfl, rfl, rfl, rfl, rfl, rfl, rfl, rfl, rfl, rfl, rfl, rfl, rfl, rfl, trivial⟩ 20 rfl rfl rfl rfl rfl rfl (fun zb1 => ?_)
  refine r_if_ne C eX11_tug_4 (fun c2 => ?_) (fun c2 => ?_)
  · rw [if_neg c2] at hf
    refine r_aload_n C eX11_tug_10 0 rfl rfl ?_
    obtain ⟨r3, hr3, hf⟩ := zbind hf
    refine r_V_v (ws' := W_Mo (z_g x) a0 o0 (gMo_ints v0) (gMo_told v0) (gMo_postX v0) (gMo_postStrong v0) (gMo_atRow v0) (gMo_heights v0) (gMo_ship v0) (gMo_lines v0) (gMo_text v0) (gMo_said v0) (gMo_readTold v0) (gMo_readX v0) (gMo_readStrong v0) (gMo_readRow v0) (gMo_parting v0) (r3.1) (r3.2) (gMo_worst v0) (gMo_logRow v0) (gMo_images v0) (gMo_isKept v0)) C (c_Mo_save (z_l x) (z_g x) a0 o0 v0  r3 hr3) eX11_tug_11 MX11_356 ⟨0, 11, _, _, rfl, rfl, rfl⟩ [0, 1, 2, 3, 4, 5, 6, 7, 8, 9, 10, 11, 12, 13, 14, 15, 16, 17, 18, 19] rfl rfl rfl rfl [] rfl trivial 20 rfl rfl rfl rfl rfl rfl ?_
    refine r_iconst C (v := (-1)) eX11_tug_14 (by decide) ?_
    refine r_istore_n C [(2, .int (-1)), (0, .ref (a0 o0)), (1, .int p1)] eX11_tug_15 rfl (by decide) rfl ?_
    refine r_iconst C (v := 0) eX11_tug_16 (by decide) ?_
    refine r_istore_n C [(3, .int 0), (2, .int (-1)), (0, .ref (a0 o0)), (1, .int p1)] eX11_tug_17 rfl (by decide) rfl ?_
    obtain ⟨q5, h6, hf⟩ := zbind hf
    have J7 : vV x 4 0 0 (W_Mo (z_g x) a0 o0 (gMo_ints v0) (gMo_told v0) (gMo_postX v0) (gMo_postStrong v0) (gMo_atRow v0) (gMo_heights v0) (q5.2.2.1) (q5.2.2.2.1) (gMo_text v0) (gMo_said v0) (gMo_readTold v0) (gMo_readX v0) (gMo_readStrong v0) (gMo_readRow v0) (q5.2.2.2.2) (r3.1) (r3.2) (gMo_worst v0) (gMo_logRow v0) (gMo_images v0) (gMo_isKept v0)) 57 [(2, .int (q5.1))] [] := by
      refine r_iload_n C eX11_tug_57 0 rfl rfl ?_
      obtain rfl := Option.some.inj (show some (((q5.1), (q5.2.2.1), (q5.2.2.2.1), (q5.2.2.2.2), (r3.1), (r3.2)) : Int32 × (Nat → Int64) × (Nat → Int32) × (Nat → Int32) × (Nat → Int64) × (Nat → Int32)) = some _ from hf)
      exact hret _ _ _ eX11_tug_58
    have L8 : ∀ (nL8 : Nat) (s4 : Int32 × Int32 × (Nat → Int64) × (Nat → Int32) × (Nat → Int32)), lp (fB_Mo_tug_18 v0 p1 r3) nL8 s4 = some q5 → vV x 4 0 0 (W_Mo (z_g x) a0 o0 (gMo_ints v0) (gMo_told v0) (gMo_postX v0) (gMo_postStrong v0) (gMo_atRow v0) (gMo_heights v0) (s4.2.2.1) (s4.2.2.2.1) (gMo_text v0) (gMo_said v0) (gMo_readTold v0) (gMo_readX v0) (gMo_readStrong v0) (gMo_readRow v0) (s4.2.2.2.2) (r3.1) (r3.2) (gMo_worst v0) (gMo_logRow v0) (gMo_images v0) (gMo_isKept v0)) 18 [(0, .ref (a0 o0)), (1, .int p1), (2, .int (s4.1)), (3, .int (s4.2.1))] [] := by
      intro nL8
      induction nL8 with
      | zero => intro s4 hq; cases hq
      | succ nL8 ihL8 =>
        intro s4 hbL8
        rw [lp_succ, fB_Mo_tug_18] at hbL8
        refine r_iload_n C eX11_tug_18 3 rfl rfl ?_
        refine r_bipush C (v := 99) eX11_tug_19 (by decide) ?_
        refine r_icmp_gt C eX11_tug_21 (fun c9 => ?_) (fun c9 => ?_)
        · rw [if_pos c9] at hbL8
          obtain rfl := Option.some.inj hbL8
          refine r_sub (lv' := [(2, .int (s4.1))]) [2] rfl ?_
          exact J7
        · rw [if_neg c9] at hbL8
          refine r_iload_n C eX11_tug_24 2 rfl rfl ?_
          refine r_if_ge C eX11_tug_25 (fun c10 => ?_) (fun c10 => ?_)
          · rw [if_pos c10] at hbL8
            obtain rfl := Option.some.inj hbL8
            refine r_sub (lv' := [(2, .int (s4.1))]) [2] rfl ?_
            exact J7
          · rw [if_neg c10] at hbL8
            refine r_aload_n C eX11_tug_28 0 rfl rfl ?_
            refine r_get (v := .ref (a0 (o0 + 6))) C eX11_tug_29 FX11_25 0 rfl rfl ?_
            refine r_bipush C (v := 8) eX11_tug_32 (by decide) ?_
            refine r_iload_n C eX11_tug_34 3 rfl rfl ?_
            refine r_i2l C eX11_tug_35 ?_
            obtain ⟨z11, hz11, hbL8⟩ := zlet_of hbL8
            refine r_naml hz11 ?_
            refine r_lastN (ws' := W_Mo (z_g x) a0 o0 (gMo_ints v0) (gMo_told v0) (gMo_postX v0) (gMo_postStrong v0) (gMo_atRow v0) (gMo_heights v0) (vp_updL (s4.2.2.1) 8 z11) (s4.2.2.2.1) (gMo_text v0) (gMo_said v0) (gMo_readTold v0) (gMo_readX v0) (gMo_readStrong v0) (gMo_readRow v0) (s4.2.2.2.2) (r3.1) (r3.2) (gMo_worst v0) (gMo_logRow v0) (gMo_images v0) (gMo_isKept v0)) C eX11_tug_36 6 8 (by decide) rfl rfl ?_
            refine r_aload_n C eX11_tug_37 0 rfl rfl ?_
            refine r_iload_n C eX11_tug_38 1 rfl rfl ?_
            obtain ⟨r12, hr12, hbL8⟩ := zbind hbL8
            refine r_V_z (ws' := W_Mo (z_g x) a0 o0 (gMo_ints v0) (gMo_told v0) (gMo_postX v0) (gMo_postStrong v0) (gMo_atRow v0) (gMo_heights v0) (r12.2.1) (r12.2.2.1) (gMo_text v0) (gMo_said v0) (gMo_readTold v0) (gMo_readX v0) (gMo_readStrong v0) (gMo_readRow v0) (r12.2.2.2) (r3.1) (r3.2) (gMo_worst v0) (gMo_logRow v0) (gMo_images v0) (gMo_isKept v0)) C (c_Mo_isIn (z_l x) (z_g x) a0 o0 ((gMo_ints v0), (gMo_told v0), (gMo_postX v0), (gMo_postStrong v0), (gMo_atRow v0), (gMo_heights v0), (vp_updL (s4.2.2.1) 8 z11), (s4.2.2.2.1), (gMo_text v0), (gMo_said v0), (gMo_readTold v0), (gMo_readX v0), (gMo_readStrong v0), (gMo_readRow v0), (s4.2.2.2.2), (r3.1), (r3.2), (gMo_worst v0), (gMo_logRow v0), (gMo_images v0), (gMo_isKept v0)) p1 r12 hr12) eX11_tug_39 MX11_376 ⟨0, 11, _, _, rfl, rfl, rfl⟩ [0, 1, 2, 3, 4, 5, 6, 7, 8, 9, 10, 11, 12, 13, 14, 15, 16, 17, 18, 19] rfl rfl rfl rfl [] rfl trivial 20 rfl rfl rfl rfl rfl rfl (fun zb13 => ?_)
            refine r_if_eq C eX11_tug_42 (fun c14 => ?_) (fun c14 => ?_)
            · rw [if_pos c14] at hbL8
              refine r_iconst C (v := (-1)) eX11_tug_49 (by decide) ?_
              refine r_istore_n C [(2, .int (-1)), (0, .ref (a0 o0)), (1, .int p1), (3, .int (s4.2.1))] eX11_tug_50 rfl (by decide) rfl ?_
              refine r_iinc C (v := ((s4.2.1) + 1)) [(3, .int ((s4.2.1) + 1)), (2, .int (-1)), (0, .ref (a0 o0)), (1, .int p1)] eX11_tug_51 3 rfl rfl (by decide) rfl ?_
              refine r_goto C eX11_tug_54 ?_
              refine r_sub (lv' := [(0, .ref (a0 o0)), (1, .int p1), (2, .int (-1)), (3, .int ((s4.2.1) + 1))]) [2, 3, 1, 0] rfl ?_
              have hc := ihL8 ((-1), ((s4.2.1) + 1), (r12.2.1), (r12.2.2.1), (r12.2.2.2)) hbL8
              exact hc
            · rw [if_neg c14] at hbL8
              refine r_iload_n C eX11_tug_45 3 rfl rfl ?_
              refine r_goto C eX11_tug_46 ?_
              refine r_istore_n C [(2, .int (s4.2.1)), (0, .ref (a0 o0)), (1, .int p1), (3, .int (s4.2.1))] eX11_tug_50 rfl (by decide) rfl ?_
              refine r_iinc C (v := ((s4.2.1) + 1)) [(3, .int ((s4.2.1) + 1)), (2, .int (s4.2.1)), (0, .ref (a0 o0)), (1, .int p1)] eX11_tug_51 3 rfl rfl (by decide) rfl ?_
              refine r_goto C eX11_tug_54 ?_
              refine r_sub (lv' := [(0, .ref (a0 o0)), (1, .int p1), (2, .int (s4.2.1)), (3, .int ((s4.2.1) + 1))]) [2, 3, 1, 0] rfl ?_
              have hc := ihL8 ((s4.2.1), ((s4.2.1) + 1), (r12.2.1), (r12.2.2.1), (r12.2.2.2)) hbL8
              exact hc
    refine r_sub (lv' := [(0, .ref (a0 o0)), (1, .int p1), (2, .int (-1)), (3, .int 0)]) [2, 3, 1, 0] rfl ?_
    have hc := L8 LF ((-1), 0, (gMo_ship v0), (gMo_lines v0), (gMo_parting v0)) h6
    exact hc
  · rw [if_pos c2] at hf
    refine r_ldc C (v := (-1000000002)) eX11_tug_7 q1183 ?_
    obtain rfl := Option.some.inj (show some (((-1000000002), (gMo_ship v0), (gMo_lines v0), (gMo_parting v0), (gMo_wasShip v0), (gMo_wasLines v0)) : Int32 × (Nat → Int64) × (Nat → Int32) × (Nat → Int32) × (Nat → Int64) × (Nat → Int32)) = some _ from hf)
    exact hret _ _ _ eX11_tug_9
theorem eX11_veer_0 : zd 1 cX11_veer 0 1 (.aload_n 0) := ⟨by decide +kernel, rfl⟩
theorem eX11_veer_1 : zd 1 cX11_veer 1 2 (.iload_n 1) := ⟨by decide +kernel, rfl⟩
theorem eX11_veer_2 : zd 3 cX11_veer 2 5 (.invokevirtual 243) := ⟨by decide +kernel, rfl⟩
theorem eX11_veer_5 : zdi cX11_veer 5 8 11 (.ifCond .ne) := ⟨6, by decide +kernel, rfl, by decide⟩
theorem eX11_veer_8 : zd 2 cX11_veer 8 10 (.ldc 202) := ⟨by decide +kernel, rfl⟩
theorem eX11_veer_10 : zd 1 cX11_veer 10 11 (.ireturn) := ⟨by decide +kernel, rfl⟩
theorem eX11_veer_11 : zd 1 cX11_veer 11 12 (.iload_n 2) := ⟨by decide +kernel, rfl⟩
theorem eX11_veer_12 : zd 1 cX11_veer 12 13 (.i2l) := ⟨by decide +kernel, rfl⟩
theorem eX11_veer_13 : zd 1 cX11_veer 13 14 (.lconst 0) := ⟨by decide +kernel, rfl⟩
theorem eX11_veer_14 : zd 3 cX11_veer 14 17 (.ldc2_w 286) := ⟨by decide +kernel, rfl⟩
theorem eX11_veer_17 : zd 3 cX11_veer 17 20 (.invokestatic 86) := ⟨by decide +kernel, rfl⟩
theorem eX11_veer_20 : zdi cX11_veer 20 23 26 (.ifCond .ne) := ⟨6, by decide +kernel, rfl, by decide⟩
theorem eX11_veer_23 : zd 2 cX11_veer 23 25 (.ldc 90) := ⟨by decide +kernel, rfl⟩
theorem eX11_veer_25 : zd 1 cX11_veer 25 26 (.ireturn) := ⟨by decide +kernel, rfl⟩
theorem eX11_veer_26 : zd 1 cX11_veer 26 27 (.aload_n 0) := ⟨by decide +kernel, rfl⟩
theorem eX11_veer_27 : zd 3 cX11_veer 27 30 (.getfield 29) := ⟨by decide +kernel, rfl⟩
theorem eX11_veer_30 : zd 1 cX11_veer 30 31 (.iconst 4) := ⟨by decide +kernel, rfl⟩
theorem eX11_veer_31 : zd 1 cX11_veer 31 32 (.iload_n 1) := ⟨by decide +kernel, rfl⟩
theorem eX11_veer_32 : zd 1 cX11_veer 32 33 (.imul) := ⟨by decide +kernel, rfl⟩
theorem eX11_veer_33 : zd 1 cX11_veer 33 34 (.iconst 3) := ⟨by decide +kernel, rfl⟩
theorem eX11_veer_34 : zd 1 cX11_veer 34 35 (.iadd) := ⟨by decide +kernel, rfl⟩
theorem eX11_veer_35 : zd 1 cX11_veer 35 36 (.iaload) := ⟨by decide +kernel, rfl⟩
theorem eX11_veer_36 : zd 1 cX11_veer 36 37 (.istore_n 3) := ⟨by decide +kernel, rfl⟩
theorem eX11_veer_37 : zd 1 cX11_veer 37 38 (.aload_n 0) := ⟨by decide +kernel, rfl⟩
theorem eX11_veer_38 : zd 3 cX11_veer 38 41 (.getfield 29) := ⟨by decide +kernel, rfl⟩
theorem eX11_veer_41 : zd 1 cX11_veer 41 42 (.iconst 4) := ⟨by decide +kernel, rfl⟩
theorem eX11_veer_42 : zd 1 cX11_veer 42 43 (.iload_n 1) := ⟨by decide +kernel, rfl⟩
theorem eX11_veer_43 : zd 1 cX11_veer 43 44 (.imul) := ⟨by decide +kernel, rfl⟩
theorem eX11_veer_44 : zd 1 cX11_veer 44 45 (.iconst 3) := ⟨by decide +kernel, rfl⟩
theorem eX11_veer_45 : zd 1 cX11_veer 45 46 (.iadd) := ⟨by decide +kernel, rfl⟩
theorem eX11_veer_46 : zd 1 cX11_veer 46 47 (.iload_n 2) := ⟨by decide +kernel, rfl⟩
theorem eX11_veer_47 : zd 1 cX11_veer 47 48 (.iastore) := ⟨by decide +kernel, rfl⟩
theorem eX11_veer_48 : zd 1 cX11_veer 48 49 (.iload_n 3) := ⟨by decide +kernel, rfl⟩
theorem eX11_veer_49 : zd 1 cX11_veer 49 50 (.ireturn) := ⟨by decide +kernel, rfl⟩
noncomputable def f_Mo_veer (v0 : tMo) (p1 : Int32) (p2 : Int32) : Option (Int32 × (Nat → Int32)) := (Option.bind (f_Mo_isFast v0 p1) (fun (r1 : Int32) => (if r1 = 0 then (some ((-1000000001), (gMo_lines v0))) else (if (f_Mo_in p2.toInt64 0 9999) = 0 then (some ((-1000000002), (gMo_lines v0))) else (if inb ((4 * p1) + 3) 24 = true then (zlet ((gMo_lines v0) (ix ((4 * p1) + 3))) (fun (z7 : Int32) => (if inb ((4 * p1) + 3) 24 = true then (some (z7, (upd (gMo_lines v0) (ix ((4 * p1) + 3)) p2))) else none))) else none)))))
abbrev rm_Mo_veer : Room := { frames := 2, cells := 0, slots := 0, locals := 46 }
set_option maxHeartbeats 4000000 in
set_option maxRecDepth 100000 in
theorem c_Mo_veer (l : Launch) (g : zGl) (a0 : Nat → Nat) (o0 : Nat) (v0 : tMo) (p1 : Int32) (p2 : Int32) (out : Int32 × (Nat → Int32)) (hf : f_Mo_veer v0 p1 p2 = some out) : zMi l yX11_veer cX11_veer 4 rm_Mo_veer g [.ref (a0 o0), .int p1, .int p2] (W_Mo g a0 o0 (gMo_ints v0) (gMo_told v0) (gMo_postX v0) (gMo_postStrong v0) (gMo_atRow v0) (gMo_heights v0) (gMo_ship v0) (gMo_lines v0) (gMo_text v0) (gMo_said v0) (gMo_readTold v0) (gMo_readX v0) (gMo_readStrong v0) (gMo_readRow v0) (gMo_parting v0) (gMo_wasShip v0) (gMo_wasLines v0) (gMo_worst v0) (gMo_logRow v0) (gMo_images v0) (gMo_isKept v0)) (out.1) (W_Mo g a0 o0 (gMo_ints v0) (gMo_told v0) (gMo_postX v0) (gMo_postStrong v0) (gMo_atRow v0) (gMo_heights v0) (gMo_ship v0) (out.2) (gMo_text v0) (gMo_said v0) (gMo_readTold v0) (gMo_readX v0) (gMo_readStrong v0) (gMo_readRow v0) (gMo_parting v0) (gMo_wasShip v0) (gMo_wasLines v0) (gMo_worst v0) (gMo_logRow v0) (gMo_images v0) (gMo_isKept v0)) := by
  refine zMi_of (lv := [(0, .ref (a0 o0)), (1, .int p1), (2, .int p2)]) (by decide) (Nat.le_of_ble_eq_true rfl) rfl (fun x hl hg C hret => ?_)
  subst hl; subst hg
  rw [f_Mo_veer] at hf
  refine r_aload_n C eX11_veer_0 0 rfl rfl ?_
  refine r_iload_n C eX11_veer_1 1 rfl rfl ?_
  obtain ⟨r1, hr1, hf⟩ := zbind hf
  refine r_V_z (ws' := W_Mo (z_g x) a0 o0 (gMo_ints v0) (gMo_told v0) (gMo_postX v0) (gMo_postStrong v0) (gMo_atRow v0) (gMo_heights v0) (gMo_ship v0) (gMo_lines v0) (gMo_text v0) (gMo_said v0) (gMo_readTold v0) (gMo_readX v0) (gMo_readStrong v0) (gMo_readRow v0) (gMo_parting v0) (gMo_wasShip v0) (gMo_wasLines v0) (gMo_worst v0) (gMo_logRow v0) (gMo_images v0) (gMo_isKept v0)) C (c_Mo_isFast (z_l x) (z_g x) a0 o0 v0 p1 r1 hr1) eX11_veer_2 MX11_243 ⟨0, 11, _, _, rfl, rfl, rfl⟩ [0, 1, 2, 3, 4, 5, 6, 7, 8, 9, 10, 11, 12, 13, 14, 15, 16, 17, 18, 19] rfl rfl rfl rfl [] rfl trivial 20 rfl rfl rfl rfl rfl rfl (fun zb2 => ?_)
  refine r_if_ne C eX11_veer_5 (fun c3 => ?_) (fun c3 => ?_)
  · rw [if_neg c3] at hf
    refine r_iload_n C eX11_veer_11 2 rfl rfl ?_
    refine r_i2l C eX11_veer_12 ?_
    refine r_lconst C (v := 0) eX11_veer_13 (by decide) ?_
    refine r_ldc2 C (v := 9999) eX11_veer_14 q1291 ?_
    refine r_S_z (ws' := W_Mo (z_g x) a0 o0 (gMo_ints v0) (gMo_told v0) (gMo_postX v0) (gMo_postStrong v0) (gMo_atRow v0) (gMo_heights v0) (gMo_ship v0) (gMo_lines v0) (gMo_text v0) (gMo_said v0) (gMo_readTold v0) (gMo_readX v0) (gMo_readStrong v0) (gMo_readRow v0) (gMo_parting v0) (gMo_wasShip v0) (gMo_wasLines v0) (gMo_worst v0) (gMo_logRow v0) (gMo_images v0) (gMo_isKept v0)) C (c_Mo_in (z_l x) (z_g x)  p2.toInt64 0 9999 _ rfl) eX11_veer_17 MX11_86 [] rfl rfl rfl rfl [0, 1, 2, 3, 4, 5, 6, 7, 8, 9, 10, 11, 12, 13, 14, 15, 16, 17, 18, 19] rfl ⟨rfl, rfl, rfl, rfl, rfl, rfl, rfl, rfl, rfl, rfl, rfl, rfl, rfl, rfl, rfl, rfl, rfl, rfl, rfl, rfl, trivial⟩ 20 rfl rfl rfl rfl rfl rfl (fun zb4 => ?_)
    refine r_if_ne C eX11_veer_20 (fun c5 => ?_) (fun c5 => ?_)
    · rw [if_neg c5] at hf
      refine r_aload_n C eX11_veer_26 0 rfl rfl ?_
      refine r_get (v := .ref (a0 (o0 + 7))) C eX11_veer_27 FX11_29 0 rfl rfl ?_
      refine r_iconst C (v := 4) eX11_veer_30 (by decide) ?_
      refine r_iload_n C eX11_veer_31 1 rfl rfl ?_
      refine r_imul C eX11_veer_32 ?_
      refine r_iconst C (v := 3) eX11_veer_33 (by decide) ?_
      refine r_iadd C eX11_veer_34 ?_
      obtain ⟨hb6, hf⟩ := zchk hf
      refine r_iald C eX11_veer_35 7 rfl (inb_in hb6) ((gMo_lines v0) (ix ((4 * p1) + 3))) rfl ?_
      obtain ⟨z7, hz7, hf⟩ := zlet_of hf
      refine r_nami hz7 ?_
      refine r_istore_n C [(3, .int z7), (0, .ref (a0 o0)), (1, .int p1), (2, .int p2)] eX11_veer_36 rfl (by decide) rfl ?_
      refine r_aload_n C eX11_veer_37 1 rfl rfl ?_
      refine r_get (v := .ref (a0 (o0 + 7))) C eX11_veer_38 FX11_29 0 rfl rfl ?_
      refine r_iconst C (v := 4) eX11_veer_41 (by decide) ?_
      refine r_iload_n C eX11_veer_42 2 rfl rfl ?_
      refine r_imul C eX11_veer_43 ?_
      refine r_iconst C (v := 3) eX11_veer_44 (by decide) ?_
      refine r_iadd C eX11_veer_45 ?_
      refine r_iload_n C eX11_veer_46 3 rfl rfl ?_
      obtain ⟨hb8, hf⟩ := zchk hf
      refine r_iast (ws' := W_Mo (z_g x) a0 o0 (gMo_ints v0) (gMo_told v0) (gMo_postX v0) (gMo_postStrong v0) (gMo_atRow v0) (gMo_heights v0) (gMo_ship v0) (upd (gMo_lines v0) (ix ((4 * p1) + 3)) p2) (gMo_text v0) (gMo_said v0) (gMo_readTold v0) (gMo_readX v0) (gMo_readStrong v0) (gMo_readRow v0) (gMo_parting v0) (gMo_wasShip v0) (gMo_wasLines v0) (gMo_worst v0) (gMo_logRow v0) (gMo_images v0) (gMo_isKept v0)) C eX11_veer_47 7 rfl (inb_in hb8) rfl ?_
      refine r_iload_n C eX11_veer_48 0 rfl rfl ?_
      obtain rfl := Option.some.inj (show some ((z7, (upd (gMo_lines v0) (ix ((4 * p1) + 3)) p2)) : Int32 × (Nat → Int32)) = some _ from hf)
      exact hret _ _ _ eX11_veer_49
    · rw [if_pos c5] at hf
      refine r_ldc C (v := (-1000000002)) eX11_veer_23 q1183 ?_
      obtain rfl := Option.some.inj (show some (((-1000000002), (gMo_lines v0)) : Int32 × (Nat → Int32)) = some _ from hf)
      exact hret _ _ _ eX11_veer_25
  · rw [if_pos c3] at hf
    refine r_ldc C (v := (-1000000001)) eX11_veer_8 q1276 ?_
    obtain rfl := Option.some.inj (show some (((-1000000001), (gMo_lines v0)) : Int32 × (Nat → Int32)) = some _ from hf)
    exact hret _ _ _ eX11_veer_10
theorem eX11_wakes_0 : zd 1 cX11_wakes 0 1 (.iload_n 1) := ⟨by decide +kernel, rfl⟩
theorem eX11_wakes_1 : zd 3 cX11_wakes 1 4 (.invokestatic 381) := ⟨by decide +kernel, rfl⟩
theorem eX11_wakes_4 : zdi cX11_wakes 4 7 10 (.ifCond .ne) := ⟨6, by decide +kernel, rfl, by decide⟩
theorem eX11_wakes_7 : zd 2 cX11_wakes 7 9 (.ldc 90) := ⟨by decide +kernel, rfl⟩
theorem eX11_wakes_9 : zd 1 cX11_wakes 9 10 (.ireturn) := ⟨by decide +kernel, rfl⟩
theorem eX11_wakes_10 : zd 1 cX11_wakes 10 11 (.iconst 0) := ⟨by decide +kernel, rfl⟩
theorem eX11_wakes_11 : zd 1 cX11_wakes 11 12 (.istore_n 2) := ⟨by decide +kernel, rfl⟩
theorem eX11_wakes_12 : zd 1 cX11_wakes 12 13 (.iconst 0) := ⟨by decide +kernel, rfl⟩
theorem eX11_wakes_13 : zd 1 cX11_wakes 13 14 (.istore_n 3) := ⟨by decide +kernel, rfl⟩
theorem eX11_wakes_14 : zd 1 cX11_wakes 14 15 (.iload_n 3) := ⟨by decide +kernel, rfl⟩
theorem eX11_wakes_15 : zd 2 cX11_wakes 15 17 (.bipush 6) := ⟨by decide +kernel, rfl⟩
theorem eX11_wakes_17 : zdi cX11_wakes 17 20 47 (.if_icmp .ge) := ⟨30, by decide +kernel, rfl, by decide⟩
theorem eX11_wakes_20 : zd 1 cX11_wakes 20 21 (.iload_n 2) := ⟨by decide +kernel, rfl⟩
theorem eX11_wakes_21 : zd 1 cX11_wakes 21 22 (.aload_n 0) := ⟨by decide +kernel, rfl⟩
theorem eX11_wakes_22 : zd 1 cX11_wakes 22 23 (.iload_n 3) := ⟨by decide +kernel, rfl⟩
theorem eX11_wakes_23 : zd 3 cX11_wakes 23 26 (.invokevirtual 243) := ⟨by decide +kernel, rfl⟩
theorem eX11_wakes_26 : zdi cX11_wakes 26 29 38 (.ifCond .eq) := ⟨12, by decide +kernel, rfl, by decide⟩
theorem eX11_wakes_29 : zd 1 cX11_wakes 29 30 (.aload_n 0) := ⟨by decide +kernel, rfl⟩
theorem eX11_wakes_30 : zd 1 cX11_wakes 30 31 (.iload_n 3) := ⟨by decide +kernel, rfl⟩
theorem eX11_wakes_31 : zd 1 cX11_wakes 31 32 (.iload_n 1) := ⟨by decide +kernel, rfl⟩
theorem eX11_wakes_32 : zd 3 cX11_wakes 32 35 (.invokevirtual 388) := ⟨by decide +kernel, rfl⟩
theorem eX11_wakes_35 : zdi cX11_wakes 35 38 39 (.goto) := ⟨4, by decide +kernel, rfl, by decide⟩
theorem eX11_wakes_38 : zd 1 cX11_wakes 38 39 (.iconst 0) := ⟨by decide +kernel, rfl⟩
theorem eX11_wakes_39 : zd 1 cX11_wakes 39 40 (.ior) := ⟨by decide +kernel, rfl⟩
theorem eX11_wakes_40 : zd 1 cX11_wakes 40 41 (.istore_n 2) := ⟨by decide +kernel, rfl⟩
theorem eX11_wakes_41 : zd 3 cX11_wakes 41 44 (.iinc 3 1) := ⟨by decide +kernel, rfl⟩
theorem eX11_wakes_44 : zdi cX11_wakes 44 47 14 (.goto) := ⟨(-30), by decide +kernel, rfl, by decide⟩
theorem eX11_wakes_47 : zd 1 cX11_wakes 47 48 (.iload_n 2) := ⟨by decide +kernel, rfl⟩
theorem eX11_wakes_48 : zd 1 cX11_wakes 48 49 (.ireturn) := ⟨by decide +kernel, rfl⟩
noncomputable def fB_Mo_wakes_14 (v0 : tMo) (p1 : Int32) (ih : (Int32 × Int32) → Option (Int32 × Int32)) (s3 : Int32 × Int32) : Option (Int32 × Int32) := (if 6 ≤ (s3.2) then (some ((s3.1), (s3.2))) else (Option.bind (f_Mo_isFast v0 (s3.2)) (fun (r9 : Int32) => (Option.bind (if r9 = 0 then (some 0) else (Option.bind (f_Mo_toldAt v0 (s3.2) p1) (fun (r14 : Int32) => (some r14)))) (fun (w11 : Int32) => (zlet ((s3.1) ||| w11) (fun (z15 : Int32) => (ih (z15, ((s3.2) + 1))))))))))
noncomputable def f_Mo_wakes (v0 : tMo) (p1 : Int32) : Option (Int32) := (if (f_Mo_isDeck p1) = 0 then (some (-1000000002)) else (Option.bind (lp (fB_Mo_wakes_14 v0 p1) LF (0, 0)) (fun (q4 : Int32 × Int32) => (some (q4.1)))))
abbrev rm_Mo_wakes : Room := { frames := 4, cells := 0, slots := 0, locals := 104 }
set_option maxHeartbeats 4000000 in
set_option maxRecDepth 100000 in
theorem c_Mo_wakes (l : Launch) (g : zGl) (a0 : Nat → Nat) (o0 : Nat) (v0 : tMo) (p1 : Int32) (out : Int32) (hf : f_Mo_wakes v0 p1 = some out) : zMi l yX11_wakes cX11_wakes 4 rm_Mo_wakes g [.ref (a0 o0), .int p1] (W_Mo g a0 o0 (gMo_ints v0) (gMo_told v0) (gMo_postX v0) (gMo_postStrong v0) (gMo_atRow v0) (gMo_heights v0) (gMo_ship v0) (gMo_lines v0) (gMo_text v0) (gMo_said v0) (gMo_readTold v0) (gMo_readX v0) (gMo_readStrong v0) (gMo_readRow v0) (gMo_parting v0) (gMo_wasShip v0) (gMo_wasLines v0) (gMo_worst v0) (gMo_logRow v0) (gMo_images v0) (gMo_isKept v0)) out (W_Mo g a0 o0 (gMo_ints v0) (gMo_told v0) (gMo_postX v0) (gMo_postStrong v0) (gMo_atRow v0) (gMo_heights v0) (gMo_ship v0) (gMo_lines v0) (gMo_text v0) (gMo_said v0) (gMo_readTold v0) (gMo_readX v0) (gMo_readStrong v0) (gMo_readRow v0) (gMo_parting v0) (gMo_wasShip v0) (gMo_wasLines v0) (gMo_worst v0) (gMo_logRow v0) (gMo_images v0) (gMo_isKept v0)) := by
  refine zMi_of (lv := [(0, .ref (a0 o0)), (1, .int p1)]) (by decide) (Nat.le_of_ble_eq_true rfl) rfl (fun x hl hg C hret => ?_)
  subst hl; subst hg
  rw [f_Mo_wakes] at hf
  refine r_iload_n C eX11_wakes_0 1 rfl rfl ?_
  refine r_S_z (ws' := W_Mo (z_g x) a0 o0 (gMo_ints v0) (gMo_told v0) (gMo_postX v0) (gMo_postStrong v0) (gMo_atRow v0) (gMo_heights v0) (gMo_ship v0) (gMo_lines v0) (gMo_text v0) (gMo_said v0) (gMo_readTold v0) (gMo_readX v0) (gMo_readStrong v0) (gMo_readRow v0) (gMo_parting v0) (gMo_wasShip v0) (gMo_wasLines v0) (gMo_worst v0) (gMo_logRow v0) (gMo_images v0) (gMo_isKept v0)) C (c_Mo_isDeck (z_l x) (z_g x)  p1 _ rfl) eX11_wakes_1 MX11_381 [] rfl rfl rfl rfl [0, 1, 2, 3, 4, 5, 6, 7, 8, 9, 10, 11, 12, 13, 14, 15, 16, 17, 18, 19] rfl ⟨rfl, rfl, rfl, rfl, rfl, rfl, rfl, rfl, rfl, rfl, rfl, rfl, rfl, rfl, rfl, rfl, rfl, rfl, rfl, rfl, trivial⟩ 20 rfl rfl rfl rfl rfl rfl (fun zb1 => ?_)
  refine r_if_ne C eX11_wakes_4 (fun c2 => ?_) (fun c2 => ?_)
  · rw [if_neg c2] at hf
    refine r_iconst C (v := 0) eX11_wakes_10 (by decide) ?_
    refine r_istore_n C [(2, .int 0), (0, .ref (a0 o0)), (1, .int p1)] eX11_wakes_11 rfl (by decide) rfl ?_
    refine r_iconst C (v := 0) eX11_wakes_12 (by decide) ?_
    refine r_istore_n C [(3, .int 0), (2, .int 0), (0, .ref (a0 o0)), (1, .int p1)] eX11_wakes_13 rfl (by decide) rfl ?_
    obtain ⟨q4, h5, hf⟩ := zbind hf
    have J6 : vV x 4 0 0 (W_Mo (z_g x) a0 o0 (gMo_ints v0) (gMo_told v0) (gMo_postX v0) (gMo_postStrong v0) (gMo_atRow v0) (gMo_heights v0) (gMo_ship v0) (gMo_lines v0) (gMo_text v0) (gMo_said v0) (gMo_readTold v0) (gMo_readX v0) (gMo_readStrong v0) (gMo_readRow v0) (gMo_parting v0) (gMo_wasShip v0) (gMo_wasLines v0) (gMo_worst v0) (gMo_logRow v0) (gMo_images v0) (gMo_isKept v0)) 47 [(2, .int (q4.1))] [] := by
      refine r_iload_n C eX11_wakes_47 0 rfl rfl ?_
      obtain rfl := Option.some.inj (show some ((q4.1) : Int32) = some _ from hf)
      exact hret _ _ _ eX11_wakes_48
    have L7 : ∀ (nL7 : Nat) (s3 : Int32 × Int32), lp (fB_Mo_wakes_14 v0 p1) nL7 s3 = some q4 → vV x 4 0 0 (W_Mo (z_g x) a0 o0 (gMo_ints v0) (gMo_told v0) (gMo_postX v0) (gMo_postStrong v0) (gMo_atRow v0) (gMo_heights v0) (gMo_ship v0) (gMo_lines v0) (gMo_text v0) (gMo_said v0) (gMo_readTold v0) (gMo_readX v0) (gMo_readStrong v0) (gMo_readRow v0) (gMo_parting v0) (gMo_wasShip v0) (gMo_wasLines v0) (gMo_worst v0) (gMo_logRow v0) (gMo_images v0) (gMo_isKept v0)) 14 [(0, .ref (a0 o0)), (1, .int p1), (2, .int (s3.1)), (3, .int (s3.2))] [] := by
      intro nL7
      induction nL7 with
      | zero => intro s3 hq; cases hq
      | succ nL7 ihL7 =>
        intro s3 hbL7
        rw [lp_succ, fB_Mo_wakes_14] at hbL7
        refine r_iload_n C eX11_wakes_14 3 rfl rfl ?_
        refine r_bipush C (v := 6) eX11_wakes_15 (by decide) ?_
        refine r_icmp_ge C eX11_wakes_17 (fun c8 => ?_) (fun c8 => ?_)
        · rw [if_pos c8] at hbL7
          obtain rfl := Option.some.inj hbL7
          refine r_sub (lv' := [(2, .int (s3.1))]) [2] rfl ?_
          exact J6
        · rw [if_neg c8] at hbL7
          refine r_iload_n C eX11_wakes_20 2 rfl rfl ?_
          refine r_aload_n C eX11_wakes_21 0 rfl rfl ?_
          refine r_iload_n C eX11_wakes_22 3 rfl rfl ?_
          obtain ⟨r9, hr9, hbL7⟩ := zbind hbL7
          refine r_V_z (ws' := W_Mo (z_g x) a0 o0 (gMo_ints v0) (gMo_told v0) (gMo_postX v0) (gMo_postStrong v0) (gMo_atRow v0) (gMo_heights v0) (gMo_ship v0) (gMo_lines v0) (gMo_text v0) (gMo_said v0) (gMo_readTold v0) (gMo_readX v0) (gMo_readStrong v0) (gMo_readRow v0) (gMo_parting v0) (gMo_wasShip v0) (gMo_wasLines v0) (gMo_worst v0) (gMo_logRow v0) (gMo_images v0) (gMo_isKept v0)) C (c_Mo_isFast (z_l x) (z_g x) a0 o0 v0 (s3.2) r9 hr9) eX11_wakes_23 MX11_243 ⟨0, 11, _, _, rfl, rfl, rfl⟩ [0, 1, 2, 3, 4, 5, 6, 7, 8, 9, 10, 11, 12, 13, 14, 15, 16, 17, 18, 19] rfl rfl rfl rfl [] rfl trivial 20 rfl rfl rfl rfl rfl rfl (fun zb10 => ?_)
          obtain ⟨w11, hw11, hbL7⟩ := zbind hbL7
          have J12 : vV x 4 0 0 (W_Mo (z_g x) a0 o0 (gMo_ints v0) (gMo_told v0) (gMo_postX v0) (gMo_postStrong v0) (gMo_atRow v0) (gMo_heights v0) (gMo_ship v0) (gMo_lines v0) (gMo_text v0) (gMo_said v0) (gMo_readTold v0) (gMo_readX v0) (gMo_readStrong v0) (gMo_readRow v0) (gMo_parting v0) (gMo_wasShip v0) (gMo_wasLines v0) (gMo_worst v0) (gMo_logRow v0) (gMo_images v0) (gMo_isKept v0)) 39 [(0, .ref (a0 o0)), (1, .int p1), (3, .int (s3.2))] [.int w11, .int (s3.1)] := by
            refine r_ior C eX11_wakes_39 ?_
            obtain ⟨z15, hz15, hbL7⟩ := zlet_of hbL7
            refine r_nami hz15 ?_
            refine r_istore_n C [(2, .int z15), (0, .ref (a0 o0)), (1, .int p1), (3, .int (s3.2))] eX11_wakes_40 rfl (by decide) rfl ?_
            refine r_iinc C (v := ((s3.2) + 1)) [(3, .int ((s3.2) + 1)), (2, .int z15), (0, .ref (a0 o0)), (1, .int p1)] eX11_wakes_41 3 rfl rfl (by decide) rfl ?_
            refine r_goto C eX11_wakes_44 ?_
            refine r_sub (lv' := [(0, .ref (a0 o0)), (1, .int p1), (2, .int z15), (3, .int ((s3.2) + 1))]) [2, 3, 1, 0] rfl ?_
            have hc := ihL7 (z15, ((s3.2) + 1)) hbL7
            exact hc
          refine r_if_eq C eX11_wakes_26 (fun c13 => ?_) (fun c13 => ?_)
          · rw [if_pos c13] at hw11
            refine r_iconst C (v := 0) eX11_wakes_38 (by decide) ?_
            obtain rfl := Option.some.inj hw11
            refine r_sub (lv' := [(0, .ref (a0 o0)), (1, .int p1), (3, .int (s3.2))]) [0, 1, 3] rfl ?_
            exact J12 
          · rw [if_neg c13] at hw11
            refine r_aload_n C eX11_wakes_29 0 rfl rfl ?_
            refine r_iload_n C eX11_wakes_30 3 rfl rfl ?_
            refine r_iload_n C eX11_wakes_31 1 rfl rfl ?_
            obtain ⟨r14, hr14, hw11⟩ := zbind hw11
            refine r_V_i (ws' := W_Mo (z_g x) a0 o0 (gMo_ints v0) (gMo_told v0) (gMo_postX v0) (gMo_postStrong v0) (gMo_atRow v0) (gMo_heights v0) (gMo_ship v0) (gMo_lines v0) (gMo_text v0) (gMo_said v0) (gMo_readTold v0) (gMo_readX v0) (gMo_readStrong v0) (gMo_readRow v0) (gMo_parting v0) (gMo_wasShip v0) (gMo_wasLines v0) (gMo_worst v0) (gMo_logRow v0) (gMo_images v0) (gMo_isKept v0)) C (c_Mo_toldAt (z_l x) (z_g x) a0 o0 v0 (s3.2) p1 r14 hr14) eX11_wakes_32 MX11_388 ⟨0, 11, _, _, rfl, rfl, rfl⟩ [0, 1, 2, 3, 4, 5, 6, 7, 8, 9, 10, 11, 12, 13, 14, 15, 16, 17, 18, 19] rfl rfl rfl rfl [] rfl trivial 20 rfl rfl rfl rfl rfl rfl ?_
            refine r_goto C eX11_wakes_35 ?_
            obtain rfl := Option.some.inj hw11
            refine r_sub (lv' := [(0, .ref (a0 o0)), (1, .int p1), (3, .int (s3.2))]) [0, 1, 3] rfl ?_
            exact J12 
    refine r_sub (lv' := [(0, .ref (a0 o0)), (1, .int p1), (2, .int 0), (3, .int 0)]) [2, 3, 1, 0] rfl ?_
    have hc := L7 LF (0, 0) h5
    exact hc
  · rw [if_pos c2] at hf
    refine r_ldc C (v := (-1000000002)) eX11_wakes_7 q1183 ?_
    obtain rfl := Option.some.inj (show some ((-1000000002) : Int32) = some _ from hf)
    exact hret _ _ _ eX11_wakes_9
theorem eX11_wind_0 : zd 1 cX11_wind 0 1 (.iload_n 1) := ⟨by decide +kernel, rfl⟩
theorem eX11_wind_1 : zd 3 cX11_wind 1 4 (.invokestatic 373) := ⟨by decide +kernel, rfl⟩
theorem eX11_wind_4 : zdi cX11_wind 4 7 10 (.ifCond .ne) := ⟨6, by decide +kernel, rfl, by decide⟩
theorem eX11_wind_7 : zd 2 cX11_wind 7 9 (.ldc 90) := ⟨by decide +kernel, rfl⟩
theorem eX11_wind_9 : zd 1 cX11_wind 9 10 (.ireturn) := ⟨by decide +kernel, rfl⟩
theorem eX11_wind_10 : zd 1 cX11_wind 10 11 (.aload_n 0) := ⟨by decide +kernel, rfl⟩
theorem eX11_wind_11 : zd 3 cX11_wind 11 14 (.invokevirtual 356) := ⟨by decide +kernel, rfl⟩
theorem eX11_wind_14 : zd 1 cX11_wind 14 15 (.aload_n 0) := ⟨by decide +kernel, rfl⟩
theorem eX11_wind_15 : zd 3 cX11_wind 15 18 (.getfield 7) := ⟨by decide +kernel, rfl⟩
theorem eX11_wind_18 : zd 2 cX11_wind 18 20 (.bipush 10) := ⟨by decide +kernel, rfl⟩
theorem eX11_wind_20 : zd 1 cX11_wind 20 21 (.iaload) := ⟨by decide +kernel, rfl⟩
theorem eX11_wind_21 : zd 1 cX11_wind 21 22 (.istore_n 2) := ⟨by decide +kernel, rfl⟩
theorem eX11_wind_22 : zd 1 cX11_wind 22 23 (.iconst (-1)) := ⟨by decide +kernel, rfl⟩
theorem eX11_wind_23 : zd 1 cX11_wind 23 24 (.istore_n 3) := ⟨by decide +kernel, rfl⟩
theorem eX11_wind_24 : zd 2 cX11_wind 24 26 (.bipush 99) := ⟨by decide +kernel, rfl⟩
theorem eX11_wind_26 : zd 2 cX11_wind 26 28 (.istore 4) := ⟨by decide +kernel, rfl⟩
theorem eX11_wind_28 : zd 2 cX11_wind 28 30 (.iload 4) := ⟨by decide +kernel, rfl⟩
theorem eX11_wind_30 : zdi cX11_wind 30 33 67 (.ifCond .lt) := ⟨37, by decide +kernel, rfl, by decide⟩
theorem eX11_wind_33 : zd 1 cX11_wind 33 34 (.iload_n 3) := ⟨by decide +kernel, rfl⟩
theorem eX11_wind_34 : zdi cX11_wind 34 37 67 (.ifCond .ge) := ⟨33, by decide +kernel, rfl, by decide⟩
theorem eX11_wind_37 : zd 1 cX11_wind 37 38 (.aload_n 0) := ⟨by decide +kernel, rfl⟩
theorem eX11_wind_38 : zd 3 cX11_wind 38 41 (.getfield 7) := ⟨by decide +kernel, rfl⟩
theorem eX11_wind_41 : zd 2 cX11_wind 41 43 (.bipush 10) := ⟨by decide +kernel, rfl⟩
theorem eX11_wind_43 : zd 2 cX11_wind 43 45 (.iload 4) := ⟨by decide +kernel, rfl⟩
theorem eX11_wind_45 : zd 1 cX11_wind 45 46 (.iastore) := ⟨by decide +kernel, rfl⟩
theorem eX11_wind_46 : zd 1 cX11_wind 46 47 (.aload_n 0) := ⟨by decide +kernel, rfl⟩
theorem eX11_wind_47 : zd 1 cX11_wind 47 48 (.iload_n 1) := ⟨by decide +kernel, rfl⟩
theorem eX11_wind_48 : zd 3 cX11_wind 48 51 (.invokevirtual 376) := ⟨by decide +kernel, rfl⟩
theorem eX11_wind_51 : zdi cX11_wind 51 54 59 (.ifCond .eq) := ⟨8, by decide +kernel, rfl, by decide⟩
theorem eX11_wind_54 : zd 2 cX11_wind 54 56 (.iload 4) := ⟨by decide +kernel, rfl⟩
theorem eX11_wind_56 : zdi cX11_wind 56 59 60 (.goto) := ⟨4, by decide +kernel, rfl, by decide⟩
theorem eX11_wind_59 : zd 1 cX11_wind 59 60 (.iconst (-1)) := ⟨by decide +kernel, rfl⟩
theorem eX11_wind_60 : zd 1 cX11_wind 60 61 (.istore_n 3) := ⟨by decide +kernel, rfl⟩
theorem eX11_wind_61 : zd 3 cX11_wind 61 64 (.iinc 4 (-1)) := ⟨by decide +kernel, rfl⟩
theorem eX11_wind_64 : zdi cX11_wind 64 67 28 (.goto) := ⟨(-36), by decide +kernel, rfl, by decide⟩
theorem eX11_wind_67 : zd 1 cX11_wind 67 68 (.aload_n 0) := ⟨by decide +kernel, rfl⟩
theorem eX11_wind_68 : zd 3 cX11_wind 68 71 (.getfield 7) := ⟨by decide +kernel, rfl⟩
theorem eX11_wind_71 : zd 2 cX11_wind 71 73 (.bipush 10) := ⟨by decide +kernel, rfl⟩
theorem eX11_wind_73 : zd 1 cX11_wind 73 74 (.iload_n 2) := ⟨by decide +kernel, rfl⟩
theorem eX11_wind_74 : zd 1 cX11_wind 74 75 (.iastore) := ⟨by decide +kernel, rfl⟩
theorem eX11_wind_75 : zd 1 cX11_wind 75 76 (.iload_n 3) := ⟨by decide +kernel, rfl⟩
theorem eX11_wind_76 : zd 1 cX11_wind 76 77 (.ireturn) := ⟨by decide +kernel, rfl⟩
noncomputable def fB_Mo_wind_28 (v0 : tMo) (p1 : Int32) (r3 : (Nat → Int64) × (Nat → Int32)) (ih : (Int32 × Int32 × (Nat → Int32) × (Nat → Int64) × (Nat → Int32) × (Nat → Int32)) → Option (Int32 × Int32 × (Nat → Int32) × (Nat → Int64) × (Nat → Int32) × (Nat → Int32))) (s4 : Int32 × Int32 × (Nat → Int32) × (Nat → Int64) × (Nat → Int32) × (Nat → Int32)) : Option (Int32 × Int32 × (Nat → Int32) × (Nat → Int64) × (Nat → Int32) × (Nat → Int32)) := (if (s4.2.1) < 0 then (some ((s4.1), (s4.2.1), (s4.2.2.1), (s4.2.2.2.1), (s4.2.2.2.2.1), (s4.2.2.2.2.2))) else (if 0 ≤ (s4.1) then (some ((s4.1), (s4.2.1), (s4.2.2.1), (s4.2.2.2.1), (s4.2.2.2.2.1), (s4.2.2.2.2.2))) else (Option.bind (f_Mo_isIn ((gMo_ints v0), (upd (s4.2.2.1) 10 (s4.2.1)), (gMo_postX v0), (gMo_postStrong v0), (gMo_atRow v0), (gMo_heights v0), (s4.2.2.2.1), (s4.2.2.2.2.1), (gMo_text v0), (gMo_said v0), (gMo_readTold v0), (gMo_readX v0), (gMo_readStrong v0), (gMo_readRow v0), (s4.2.2.2.2.2), (r3.1), (r3.2), (gMo_worst v0), (gMo_logRow v0), (gMo_images v0), (gMo_isKept v0)) p1) (fun (r11 : Int32 × (Nat → Int64) × (Nat → Int32) × (Nat → Int32)) => (if (r11.1) = 0 then (ih ((-1), ((s4.2.1) + (-1)), (upd (s4.2.2.1) 10 (s4.2.1)), (r11.2.1), (r11.2.2.1), (r11.2.2.2))) else (ih ((s4.2.1), ((s4.2.1) + (-1)), (upd (s4.2.2.1) 10 (s4.2.1)), (r11.2.1), (r11.2.2.1), (r11.2.2.2))))))))
noncomputable def f_Mo_wind (v0 : tMo) (p1 : Int32) : Option (Int32 × (Nat → Int32) × (Nat → Int64) × (Nat → Int32) × (Nat → Int32) × (Nat → Int64) × (Nat → Int32)) := (if (f_Mo_isSpan p1) = 0 then (some ((-1000000002), (gMo_told v0), (gMo_ship v0), (gMo_lines v0), (gMo_parting v0), (gMo_wasShip v0), (gMo_wasLines v0))) else (Option.bind (f_Mo_save v0) (fun (r3 : (Nat → Int64) × (Nat → Int32)) => (Option.bind (lp (fB_Mo_wind_28 v0 p1 r3) LF ((-1), 99, (gMo_told v0), (gMo_ship v0), (gMo_lines v0), (gMo_parting v0))) (fun (q5 : Int32 × Int32 × (Nat → Int32) × (Nat → Int64) × (Nat → Int32) × (Nat → Int32)) => (some ((q5.1), (upd (q5.2.2.1) 10 ((gMo_told v0) 10)), (q5.2.2.2.1), (q5.2.2.2.2.1), (q5.2.2.2.2.2), (r3.1), (r3.2))))))))
abbrev rm_Mo_wind : Room := { frames := 9, cells := 0, slots := 0, locals := 219 }
set_option maxHeartbeats 4000000 in
set_option maxRecDepth 100000 in
theorem c_Mo_wind (l : Launch) (g : zGl) (a0 : Nat → Nat) (o0 : Nat) (v0 : tMo) (p1 : Int32) (out : Int32 × (Nat → Int32) × (Nat → Int64) × (Nat → Int32) × (Nat → Int32) × (Nat → Int64) × (Nat → Int32)) (hf : f_Mo_wind v0 p1 = some out) : zMi l yX11_wind cX11_wind 5 rm_Mo_wind g [.ref (a0 o0), .int p1] (W_Mo g a0 o0 (gMo_ints v0) (gMo_told v0) (gMo_postX v0) (gMo_postStrong v0) (gMo_atRow v0) (gMo_heights v0) (gMo_ship v0) (gMo_lines v0) (gMo_text v0) (gMo_said v0) (gMo_readTold v0) (gMo_readX v0) (gMo_readStrong v0) (gMo_readRow v0) (gMo_parting v0) (gMo_wasShip v0) (gMo_wasLines v0) (gMo_worst v0) (gMo_logRow v0) (gMo_images v0) (gMo_isKept v0)) (out.1) (W_Mo g a0 o0 (gMo_ints v0) (out.2.1) (gMo_postX v0) (gMo_postStrong v0) (gMo_atRow v0) (gMo_heights v0) (out.2.2.1) (out.2.2.2.1) (gMo_text v0) (gMo_said v0) (gMo_readTold v0) (gMo_readX v0) (gMo_readStrong v0) (gMo_readRow v0) (out.2.2.2.2.1) (out.2.2.2.2.2.1) (out.2.2.2.2.2.2) (gMo_worst v0) (gMo_logRow v0) (gMo_images v0) (gMo_isKept v0)) := by
  refine zMi_of (lv := [(0, .ref (a0 o0)), (1, .int p1)]) (by decide) (Nat.le_of_ble_eq_true rfl) rfl (fun x hl hg C hret => ?_)
  subst hl; subst hg
  rw [f_Mo_wind] at hf
  refine r_iload_n C eX11_wind_0 1 rfl rfl ?_
  refine r_S_z (ws' := W_Mo (z_g x) a0 o0 (gMo_ints v0) (gMo_told v0) (gMo_postX v0) (gMo_postStrong v0) (gMo_atRow v0) (gMo_heights v0) (gMo_ship v0) (gMo_lines v0) (gMo_text v0) (gMo_said v0) (gMo_readTold v0) (gMo_readX v0) (gMo_readStrong v0) (gMo_readRow v0) (gMo_parting v0) (gMo_wasShip v0) (gMo_wasLines v0) (gMo_worst v0) (gMo_logRow v0) (gMo_images v0) (gMo_isKept v0)) C (c_Mo_isSpan (z_l x) (z_g x)  p1 _ rfl) eX11_wind_1 MX11_373 [] rfl rfl rfl rfl [0, 1, 2, 3, 4, 5, 6, 7, 8, 9, 10, 11, 12, 13, 14, 15, 16, 17, 18, 19] rfl ⟨rfl, rfl, rfl, rfl, rfl, rfl, rfl, rfl, rfl, rfl, rfl, rfl, rfl, rfl, rfl, rfl, rfl, rfl, rfl, rfl, trivial⟩ 20 rfl rfl rfl rfl rfl rfl (fun zb1 => ?_)
  refine r_if_ne C eX11_wind_4 (fun c2 => ?_) (fun c2 => ?_)
  · rw [if_neg c2] at hf
    refine r_aload_n C eX11_wind_10 0 rfl rfl ?_
    obtain ⟨r3, hr3, hf⟩ := zbind hf
    refine r_V_v (ws' := W_Mo (z_g x) a0 o0 (gMo_ints v0) (gMo_told v0) (gMo_postX v0) (gMo_postStrong v0) (gMo_atRow v0) (gMo_heights v0) (gMo_ship v0) (gMo_lines v0) (gMo_text v0) (gMo_said v0) (gMo_readTold v0) (gMo_readX v0) (gMo_readStrong v0) (gMo_readRow v0) (gMo_parting v0) (r3.1) (r3.2) (gMo_worst v0) (gMo_logRow v0) (gMo_images v0) (gMo_isKept v0)) C (c_Mo_save (z_l x) (z_g x) a0 o0 v0  r3 hr3) eX11_wind_11 MX11_356 ⟨0, 11, _, _, rfl, rfl, rfl⟩ [0, 1, 2, 3, 4, 5, 6, 7, 8, 9, 10, 11, 12, 13, 14, 15, 16, 17, 18, 19] rfl rfl rfl rfl [] rfl trivial 20 rfl rfl rfl rfl rfl rfl ?_
    refine r_aload_n C eX11_wind_14 0 rfl rfl ?_
    refine r_get (v := .ref (a0 (o0 + 1))) C eX11_wind_15 FX11_7 0 rfl rfl ?_
    refine r_bipush C (v := 10) eX11_wind_18 (by decide) ?_
    refine r_ialdN C eX11_wind_20 1 10 (by decide) rfl ((gMo_told v0) 10) rfl ?_
    refine r_istore_n C [(2, .int ((gMo_told v0) 10)), (0, .ref (a0 o0)), (1, .int p1)] eX11_wind_21 rfl (by decide) rfl ?_
    refine r_iconst C (v := (-1)) eX11_wind_22 (by decide) ?_
    refine r_istore_n C [(3, .int (-1)), (2, .int ((gMo_told v0) 10)), (0, .ref (a0 o0)), (1, .int p1)] eX11_wind_23 rfl (by decide) rfl ?_
    refine r_bipush C (v := 99) eX11_wind_24 (by decide) ?_
    refine r_istore C [(4, .int 99), (3, .int (-1)), (2, .int ((gMo_told v0) 10)), (0, .ref (a0 o0)), (1, .int p1)] eX11_wind_26 (by decide) rfl ?_
    obtain ⟨q5, h6, hf⟩ := zbind hf
    have J7 : vV x 5 0 0 (W_Mo (z_g x) a0 o0 (gMo_ints v0) (q5.2.2.1) (gMo_postX v0) (gMo_postStrong v0) (gMo_atRow v0) (gMo_heights v0) (q5.2.2.2.1) (q5.2.2.2.2.1) (gMo_text v0) (gMo_said v0) (gMo_readTold v0) (gMo_readX v0) (gMo_readStrong v0) (gMo_readRow v0) (q5.2.2.2.2.2) (r3.1) (r3.2) (gMo_worst v0) (gMo_logRow v0) (gMo_images v0) (gMo_isKept v0)) 67 [(0, .ref (a0 o0)), (2, .int ((gMo_told v0) 10)), (3, .int (q5.1))] [] := by
      refine r_aload_n C eX11_wind_67 0 rfl rfl ?_
      refine r_get (v := .ref (a0 (o0 + 1))) C eX11_wind_68 FX11_7 0 rfl rfl ?_
      refine r_bipush C (v := 10) eX11_wind_71 (by decide) ?_
      refine r_iload_n C eX11_wind_73 1 rfl rfl ?_
      refine r_iastN (ws' := W_Mo (z_g x) a0 o0 (gMo_ints v0) (upd (q5.2.2.1) 10 ((gMo_told v0) 10)) (gMo_postX v0) (gMo_postStrong v0) (gMo_atRow v0) (gMo_heights v0) (q5.2.2.2.1) (q5.2.2.2.2.1) (gMo_text v0) (gMo_said v0) (gMo_readTold v0) (gMo_readX v0) (gMo_readStrong v0) (gMo_readRow v0) (q5.2.2.2.2.2) (r3.1) (r3.2) (gMo_worst v0) (gMo_logRow v0) (gMo_images v0) (gMo_isKept v0)) C eX11_wind_74 1 10 (by decide) rfl rfl ?_
      refine r_iload_n C eX11_wind_75 2 rfl rfl ?_
      obtain rfl := Option.some.inj (show some (((q5.1), (upd (q5.2.2.1) 10 ((gMo_told v0) 10)), (q5.2.2.2.1), (q5.2.2.2.2.1), (q5.2.2.2.2.2), (r3.1), (r3.2)) : Int32 × (Nat → Int32) × (Nat → Int64) × (Nat → Int32) × (Nat → Int32) × (Nat → Int64) × (Nat → Int32)) = some _ from hf)
      exact hret _ _ _ eX11_wind_76
    have L8 : ∀ (nL8 : Nat) (s4 : Int32 × Int32 × (Nat → Int32) × (Nat → Int64) × (Nat → Int32) × (Nat → Int32)), lp (fB_Mo_wind_28 v0 p1 r3) nL8 s4 = some q5 → vV x 5 0 0 (W_Mo (z_g x) a0 o0 (gMo_ints v0) (s4.2.2.1) (gMo_postX v0) (gMo_postStrong v0) (gMo_atRow v0) (gMo_heights v0) (s4.2.2.2.1) (s4.2.2.2.2.1) (gMo_text v0) (gMo_said v0) (gMo_readTold v0) (gMo_readX v0) (gMo_readStrong v0) (gMo_readRow v0) (s4.2.2.2.2.2) (r3.1) (r3.2) (gMo_worst v0) (gMo_logRow v0) (gMo_images v0) (gMo_isKept v0)) 28 [(0, .ref (a0 o0)), (1, .int p1), (2, .int ((gMo_told v0) 10)), (3, .int (s4.1)), (4, .int (s4.2.1))] [] := by
      intro nL8
      induction nL8 with
      | zero => intro s4 hq; cases hq
      | succ nL8 ihL8 =>
        intro s4 hbL8
        rw [lp_succ, fB_Mo_wind_28] at hbL8
        refine r_iload C eX11_wind_28 4 rfl ?_
        refine r_if_lt C eX11_wind_30 (fun c9 => ?_) (fun c9 => ?_)
        · rw [if_pos c9] at hbL8
          obtain rfl := Option.some.inj hbL8
          refine r_sub (lv' := [(0, .ref (a0 o0)), (2, .int ((gMo_told v0) 10)), (3, .int (s4.1))]) [0, 2, 3] rfl ?_
          exact J7
        · rw [if_neg c9] at hbL8
          refine r_iload_n C eX11_wind_33 3 rfl rfl ?_
          refine r_if_ge C eX11_wind_34 (fun c10 => ?_) (fun c10 => ?_)
          · rw [if_pos c10] at hbL8
            obtain rfl := Option.some.inj hbL8
            refine r_sub (lv' := [(0, .ref (a0 o0)), (2, .int ((gMo_told v0) 10)), (3, .int (s4.1))]) [0, 2, 3] rfl ?_
            exact J7
          · rw [if_neg c10] at hbL8
            refine r_aload_n C eX11_wind_37 0 rfl rfl ?_
            refine r_get (v := .ref (a0 (o0 + 1))) C eX11_wind_38 FX11_7 0 rfl rfl ?_
            refine r_bipush C (v := 10) eX11_wind_41 (by decide) ?_
            refine r_iload C eX11_wind_43 4 rfl ?_
            refine r_iastN (ws' := W_Mo (z_g x) a0 o0 (gMo_ints v0) (upd (s4.2.2.1) 10 (s4.2.1)) (gMo_postX v0) (gMo_postStrong v0) (gMo_atRow v0) (gMo_heights v0) (s4.2.2.2.1) (s4.2.2.2.2.1) (gMo_text v0) (gMo_said v0) (gMo_readTold v0) (gMo_readX v0) (gMo_readStrong v0) (gMo_readRow v0) (s4.2.2.2.2.2) (r3.1) (r3.2) (gMo_worst v0) (gMo_logRow v0) (gMo_images v0) (gMo_isKept v0)) C eX11_wind_45 1 10 (by decide) rfl rfl ?_
            refine r_aload_n C eX11_wind_46 0 rfl rfl ?_
            refine r_iload_n C eX11_wind_47 1 rfl rfl ?_
            obtain ⟨r11, hr11, hbL8⟩ := zbind hbL8
            refine r_V_z (ws' := W_Mo (z_g x) a0 o0 (gMo_ints v0) (upd (s4.2.2.1) 10 (s4.2.1)) (gMo_postX v0) (gMo_postStrong v0) (gMo_atRow v0) (gMo_heights v0) (r11.2.1) (r11.2.2.1) (gMo_text v0) (gMo_said v0) (gMo_readTold v0) (gMo_readX v0) (gMo_readStrong v0) (gMo_readRow v0) (r11.2.2.2) (r3.1) (r3.2) (gMo_worst v0) (gMo_logRow v0) (gMo_images v0) (gMo_isKept v0)) C (c_Mo_isIn (z_l x) (z_g x) a0 o0 ((gMo_ints v0), (upd (s4.2.2.1) 10 (s4.2.1)), (gMo_postX v0), (gMo_postStrong v0), (gMo_atRow v0), (gMo_heights v0), (s4.2.2.2.1), (s4.2.2.2.2.1), (gMo_text v0), (gMo_said v0), (gMo_readTold v0), (gMo_readX v0), (gMo_readStrong v0), (gMo_readRow v0), (s4.2.2.2.2.2), (r3.1), (r3.2), (gMo_worst v0), (gMo_logRow v0), (gMo_images v0), (gMo_isKept v0)) p1 r11 hr11) eX11_wind_48 MX11_376 ⟨0, 11, _, _, rfl, rfl, rfl⟩ [0, 1, 2, 3, 4, 5, 6, 7, 8, 9, 10, 11, 12, 13, 14, 15, 16, 17, 18, 19] rfl rfl rfl rfl [] rfl trivial 20 rfl rfl rfl rfl rfl rfl (fun zb12 => ?_)
            refine r_if_eq C eX11_wind_51 (fun c13 => ?_) (fun c13 => ?_)
            · rw [if_pos c13] at hbL8
              refine r_iconst C (v := (-1)) eX11_wind_59 (by decide) ?_
              refine r_istore_n C [(3, .int (-1)), (0, .ref (a0 o0)), (1, .int p1), (2, .int ((gMo_told v0) 10)), (4, .int (s4.2.1))] eX11_wind_60 rfl (by decide) rfl ?_
              refine r_iinc C (v := ((s4.2.1) + (-1))) [(4, .int ((s4.2.1) + (-1))), (3, .int (-1)), (0, .ref (a0 o0)), (1, .int p1), (2, .int ((gMo_told v0) 10))] eX11_wind_61 4 rfl rfl (by decide) rfl ?_
              refine r_goto C eX11_wind_64 ?_
              refine r_sub (lv' := [(0, .ref (a0 o0)), (1, .int p1), (2, .int ((gMo_told v0) 10)), (3, .int (-1)), (4, .int ((s4.2.1) + (-1)))]) [2, 3, 4, 1, 0] rfl ?_
              have hc := ihL8 ((-1), ((s4.2.1) + (-1)), (upd (s4.2.2.1) 10 (s4.2.1)), (r11.2.1), (r11.2.2.1), (r11.2.2.2)) hbL8
              exact hc
            · rw [if_neg c13] at hbL8
              refine r_iload C eX11_wind_54 4 rfl ?_
              refine r_goto C eX11_wind_56 ?_
              refine r_istore_n C [(3, .int (s4.2.1)), (0, .ref (a0 o0)), (1, .int p1), (2, .int ((gMo_told v0) 10)), (4, .int (s4.2.1))] eX11_wind_60 rfl (by decide) rfl ?_
              refine r_iinc C (v := ((s4.2.1) + (-1))) [(4, .int ((s4.2.1) + (-1))), (3, .int (s4.2.1)), (0, .ref (a0 o0)), (1, .int p1), (2, .int ((gMo_told v0) 10))] eX11_wind_61 4 rfl rfl (by decide) rfl ?_
              refine r_goto C eX11_wind_64 ?_
              refine r_sub (lv' := [(0, .ref (a0 o0)), (1, .int p1), (2, .int ((gMo_told v0) 10)), (3, .int (s4.2.1)), (4, .int ((s4.2.1) + (-1)))]) [2, 3, 4, 1, 0] rfl ?_
              have hc := ihL8 ((s4.2.1), ((s4.2.1) + (-1)), (upd (s4.2.2.1) 10 (s4.2.1)), (r11.2.1), (r11.2.2.1), (r11.2.2.2)) hbL8
              exact hc
    refine r_sub (lv' := [(0, .ref (a0 o0)), (1, .int p1), (2, .int ((gMo_told v0) 10)), (3, .int (-1)), (4, .int 99)]) [3, 4, 2, 1, 0] rfl ?_
    have hc := L8 LF ((-1), 99, (gMo_told v0), (gMo_ship v0), (gMo_lines v0), (gMo_parting v0)) h6
    exact hc
  · rw [if_pos c2] at hf
    refine r_ldc C (v := (-1000000002)) eX11_wind_7 q1183 ?_
    obtain rfl := Option.some.inj (show some (((-1000000002), (gMo_told v0), (gMo_ship v0), (gMo_lines v0), (gMo_parting v0), (gMo_wasShip v0), (gMo_wasLines v0)) : Int32 × (Nat → Int32) × (Nat → Int64) × (Nat → Int32) × (Nat → Int32) × (Nat → Int64) × (Nat → Int32)) = some _ from hf)
    exact hret _ _ _ eX11_wind_9
