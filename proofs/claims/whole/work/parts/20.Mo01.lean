theorem eX11_arm_0 : zd 1 cX11_arm 0 1 (.aload_n 0) := ⟨by decide +kernel, rfl⟩
theorem eX11_arm_1 : zd 3 cX11_arm 1 4 (.getfield 7) := ⟨by decide +kernel, rfl⟩
theorem eX11_arm_4 : zd 1 cX11_arm 4 5 (.iconst 2) := ⟨by decide +kernel, rfl⟩
theorem eX11_arm_5 : zd 1 cX11_arm 5 6 (.iaload) := ⟨by decide +kernel, rfl⟩
theorem eX11_arm_6 : zd 1 cX11_arm 6 7 (.iconst 2) := ⟨by decide +kernel, rfl⟩
theorem eX11_arm_7 : zd 1 cX11_arm 7 8 (.idiv) := ⟨by decide +kernel, rfl⟩
theorem eX11_arm_8 : zd 1 cX11_arm 8 9 (.i2l) := ⟨by decide +kernel, rfl⟩
theorem eX11_arm_9 : zd 1 cX11_arm 9 10 (.iload_n 1) := ⟨by decide +kernel, rfl⟩
theorem eX11_arm_10 : zd 1 cX11_arm 10 11 (.i2l) := ⟨by decide +kernel, rfl⟩
theorem eX11_arm_11 : zd 1 cX11_arm 11 12 (.lmul) := ⟨by decide +kernel, rfl⟩
theorem eX11_arm_12 : zd 3 cX11_arm 12 15 (.ldc2_w 203) := ⟨by decide +kernel, rfl⟩
theorem eX11_arm_15 : zd 1 cX11_arm 15 16 (.ldiv) := ⟨by decide +kernel, rfl⟩
theorem eX11_arm_16 : zd 1 cX11_arm 16 17 (.lreturn) := ⟨by decide +kernel, rfl⟩
theorem FX11_7 : zlF RX11 7 11 0 := ⟨(RX11, TX11, 34), rfl, by decide, q1071, zin11⟩
noncomputable def f_Mo_arm (v0 : tMo) (p1 : Int32) : Int64 := (((((gMo_told v0) 2) / 2).toInt64 * p1.toInt64) / 100)
abbrev rm_Mo_arm : Room := { frames := 0, cells := 0, slots := 0, locals := 0 }
set_option maxHeartbeats 4000000 in
set_option maxRecDepth 100000 in
theorem c_Mo_arm (l : Launch) (g : zGl) (a0 : Nat → Nat) (o0 : Nat) (v0 : tMo) (p1 : Int32) (out : Int64) (hf : f_Mo_arm v0 p1 = out) : zMl l yX11_arm cX11_arm 2 rm_Mo_arm g [.ref (a0 o0), .int p1] (W_Mo g a0 o0 (gMo_ints v0) (gMo_told v0) (gMo_postX v0) (gMo_postStrong v0) (gMo_atRow v0) (gMo_heights v0) (gMo_ship v0) (gMo_lines v0) (gMo_text v0) (gMo_said v0) (gMo_readTold v0) (gMo_readX v0) (gMo_readStrong v0) (gMo_readRow v0) (gMo_parting v0) (gMo_wasShip v0) (gMo_wasLines v0) (gMo_worst v0) (gMo_logRow v0) (gMo_images v0) (gMo_isKept v0)) out (W_Mo g a0 o0 (gMo_ints v0) (gMo_told v0) (gMo_postX v0) (gMo_postStrong v0) (gMo_atRow v0) (gMo_heights v0) (gMo_ship v0) (gMo_lines v0) (gMo_text v0) (gMo_said v0) (gMo_readTold v0) (gMo_readX v0) (gMo_readStrong v0) (gMo_readRow v0) (gMo_parting v0) (gMo_wasShip v0) (gMo_wasLines v0) (gMo_worst v0) (gMo_logRow v0) (gMo_images v0) (gMo_isKept v0)) := by
  refine zMl_of (lv := [(0, .ref (a0 o0)), (1, .int p1)]) (by decide) (Nat.le_of_ble_eq_true rfl) rfl (fun x hl hg C hret => ?_)
  subst hl; subst hg
  rw [f_Mo_arm] at hf
  refine r_aload_n C eX11_arm_0 0 rfl rfl ?_
  refine r_get (v := .ref (a0 (o0 + 1))) C eX11_arm_1 FX11_7 0 rfl rfl ?_
  refine r_iconst C (v := 2) eX11_arm_4 (by decide) ?_
  refine r_ialdN C eX11_arm_5 1 2 (by decide) rfl ((gMo_told v0) 2) rfl ?_
  refine r_iconst C (v := 2) eX11_arm_6 (by decide) ?_
  refine r_idiv C eX11_arm_7 (by decide) ?_
  refine r_i2l C eX11_arm_8 ?_
  refine r_iload_n C eX11_arm_9 1 rfl rfl ?_
  refine r_i2l C eX11_arm_10 ?_
  refine r_lmul C eX11_arm_11 ?_
  refine r_ldc2 C (v := 100) eX11_arm_12 q1315 ?_
  refine r_ldiv C eX11_arm_15 (by decide) ?_
  subst hf
  exact hret _ _ _ eX11_arm_16
theorem eX11_along_0 : zd 1 cX11_along 0 1 (.aload_n 0) := ⟨by decide +kernel, rfl⟩
theorem eX11_along_1 : zd 3 cX11_along 1 4 (.getfield 25) := ⟨by decide +kernel, rfl⟩
theorem eX11_along_4 : zd 1 cX11_along 4 5 (.iconst 0) := ⟨by decide +kernel, rfl⟩
theorem eX11_along_5 : zd 1 cX11_along 5 6 (.laload) := ⟨by decide +kernel, rfl⟩
theorem eX11_along_6 : zd 1 cX11_along 6 7 (.aload_n 0) := ⟨by decide +kernel, rfl⟩
theorem eX11_along_7 : zd 1 cX11_along 7 8 (.iload_n 1) := ⟨by decide +kernel, rfl⟩
theorem eX11_along_8 : zd 3 cX11_along 8 11 (.invokevirtual 205) := ⟨by decide +kernel, rfl⟩
theorem eX11_along_11 : zd 1 cX11_along 11 12 (.ladd) := ⟨by decide +kernel, rfl⟩
theorem eX11_along_12 : zd 1 cX11_along 12 13 (.lreturn) := ⟨by decide +kernel, rfl⟩
theorem FX11_25 : zlF RX11 25 11 8 := ⟨(RX11, TX11, 34), rfl, by decide, q1079, zin11⟩
theorem MX11_205 : zlV RX11 205 yX11_arm cX11_arm 2 ((Option.some FieldType.long)) 1 := ⟨q1311, q1313, qs41, q12, q1314, by decide, by decide, by decide +kernel⟩
noncomputable def f_Mo_along (v0 : tMo) (p1 : Int32) : Int64 := (((gMo_ship v0) 0) + (f_Mo_arm v0 p1))
abbrev rm_Mo_along : Room := { frames := 1, cells := 0, slots := 0, locals := 21 }
set_option maxHeartbeats 4000000 in
set_option maxRecDepth 100000 in
theorem c_Mo_along (l : Launch) (g : zGl) (a0 : Nat → Nat) (o0 : Nat) (v0 : tMo) (p1 : Int32) (out : Int64) (hf : f_Mo_along v0 p1 = out) : zMl l yX11_along cX11_along 2 rm_Mo_along g [.ref (a0 o0), .int p1] (W_Mo g a0 o0 (gMo_ints v0) (gMo_told v0) (gMo_postX v0) (gMo_postStrong v0) (gMo_atRow v0) (gMo_heights v0) (gMo_ship v0) (gMo_lines v0) (gMo_text v0) (gMo_said v0) (gMo_readTold v0) (gMo_readX v0) (gMo_readStrong v0) (gMo_readRow v0) (gMo_parting v0) (gMo_wasShip v0) (gMo_wasLines v0) (gMo_worst v0) (gMo_logRow v0) (gMo_images v0) (gMo_isKept v0)) out (W_Mo g a0 o0 (gMo_ints v0) (gMo_told v0) (gMo_postX v0) (gMo_postStrong v0) (gMo_atRow v0) (gMo_heights v0) (gMo_ship v0) (gMo_lines v0) (gMo_text v0) (gMo_said v0) (gMo_readTold v0) (gMo_readX v0) (gMo_readStrong v0) (gMo_readRow v0) (gMo_parting v0) (gMo_wasShip v0) (gMo_wasLines v0) (gMo_worst v0) (gMo_logRow v0) (gMo_images v0) (gMo_isKept v0)) := by
  refine zMl_of (lv := [(0, .ref (a0 o0)), (1, .int p1)]) (by decide) (Nat.le_of_ble_eq_true rfl) rfl (fun x hl hg C hret => ?_)
  subst hl; subst hg
  rw [f_Mo_along] at hf
  refine r_aload_n C eX11_along_0 0 rfl rfl ?_
  refine r_get (v := .ref (a0 (o0 + 6))) C eX11_along_1 FX11_25 0 rfl rfl ?_
  refine r_iconst C (v := 0) eX11_along_4 (by decide) ?_
  refine r_laldN C eX11_along_5 6 0 (by decide) rfl ((gMo_ship v0) 0) rfl ?_
  refine r_aload_n C eX11_along_6 0 rfl rfl ?_
  refine r_iload_n C eX11_along_7 1 rfl rfl ?_
  refine r_V_l (ws' := W_Mo (z_g x) a0 o0 (gMo_ints v0) (gMo_told v0) (gMo_postX v0) (gMo_postStrong v0) (gMo_atRow v0) (gMo_heights v0) (gMo_ship v0) (gMo_lines v0) (gMo_text v0) (gMo_said v0) (gMo_readTold v0) (gMo_readX v0) (gMo_readStrong v0) (gMo_readRow v0) (gMo_parting v0) (gMo_wasShip v0) (gMo_wasLines v0) (gMo_worst v0) (gMo_logRow v0) (gMo_images v0) (gMo_isKept v0)) C (c_Mo_arm (z_l x) (z_g x) a0 o0 v0 p1 _ rfl) eX11_along_8 MX11_205 ⟨0, 11, _, _, rfl, rfl, rfl⟩ [0, 1, 2, 3, 4, 5, 6, 7, 8, 9, 10, 11, 12, 13, 14, 15, 16, 17, 18, 19] rfl rfl rfl rfl [] rfl trivial 20 rfl rfl rfl rfl rfl rfl ?_
  refine r_ladd C eX11_along_11 ?_
  subst hf
  exact hret _ _ _ eX11_along_12
theorem eX11_save_0 : zd 1 cX11_save 0 1 (.iconst 0) := ⟨by decide +kernel, rfl⟩
theorem eX11_save_1 : zd 1 cX11_save 1 2 (.istore_n 1) := ⟨by decide +kernel, rfl⟩
theorem eX11_save_2 : zd 1 cX11_save 2 3 (.iload_n 1) := ⟨by decide +kernel, rfl⟩
theorem eX11_save_3 : zd 2 cX11_save 3 5 (.bipush 13) := ⟨by decide +kernel, rfl⟩
theorem eX11_save_5 : zdi cX11_save 5 8 26 (.if_icmp .ge) := ⟨21, by decide +kernel, rfl, by decide⟩
theorem eX11_save_8 : zd 1 cX11_save 8 9 (.aload_n 0) := ⟨by decide +kernel, rfl⟩
theorem eX11_save_9 : zd 3 cX11_save 9 12 (.getfield 54) := ⟨by decide +kernel, rfl⟩
theorem eX11_save_12 : zd 1 cX11_save 12 13 (.iload_n 1) := ⟨by decide +kernel, rfl⟩
theorem eX11_save_13 : zd 1 cX11_save 13 14 (.aload_n 0) := ⟨by decide +kernel, rfl⟩
theorem eX11_save_14 : zd 3 cX11_save 14 17 (.getfield 25) := ⟨by decide +kernel, rfl⟩
theorem eX11_save_17 : zd 1 cX11_save 17 18 (.iload_n 1) := ⟨by decide +kernel, rfl⟩
theorem eX11_save_18 : zd 1 cX11_save 18 19 (.laload) := ⟨by decide +kernel, rfl⟩
theorem eX11_save_19 : zd 1 cX11_save 19 20 (.lastore) := ⟨by decide +kernel, rfl⟩
theorem eX11_save_20 : zd 3 cX11_save 20 23 (.iinc 1 1) := ⟨by decide +kernel, rfl⟩
theorem eX11_save_23 : zdi cX11_save 23 26 2 (.goto) := ⟨(-21), by decide +kernel, rfl, by decide⟩
theorem eX11_save_26 : zd 1 cX11_save 26 27 (.iconst 0) := ⟨by decide +kernel, rfl⟩
theorem eX11_save_27 : zd 1 cX11_save 27 28 (.istore_n 1) := ⟨by decide +kernel, rfl⟩
theorem eX11_save_28 : zd 1 cX11_save 28 29 (.iload_n 1) := ⟨by decide +kernel, rfl⟩
theorem eX11_save_29 : zd 2 cX11_save 29 31 (.bipush 24) := ⟨by decide +kernel, rfl⟩
theorem eX11_save_31 : zdi cX11_save 31 34 52 (.if_icmp .ge) := ⟨21, by decide +kernel, rfl, by decide⟩
theorem eX11_save_34 : zd 1 cX11_save 34 35 (.aload_n 0) := ⟨by decide +kernel, rfl⟩
theorem eX11_save_35 : zd 3 cX11_save 35 38 (.getfield 57) := ⟨by decide +kernel, rfl⟩
theorem eX11_save_38 : zd 1 cX11_save 38 39 (.iload_n 1) := ⟨by decide +kernel, rfl⟩
theorem eX11_save_39 : zd 1 cX11_save 39 40 (.aload_n 0) := ⟨by decide +kernel, rfl⟩
theorem eX11_save_40 : zd 3 cX11_save 40 43 (.getfield 29) := ⟨by decide +kernel, rfl⟩
theorem eX11_save_43 : zd 1 cX11_save 43 44 (.iload_n 1) := ⟨by decide +kernel, rfl⟩
theorem eX11_save_44 : zd 1 cX11_save 44 45 (.iaload) := ⟨by decide +kernel, rfl⟩
theorem eX11_save_45 : zd 1 cX11_save 45 46 (.iastore) := ⟨by decide +kernel, rfl⟩
theorem eX11_save_46 : zd 3 cX11_save 46 49 (.iinc 1 1) := ⟨by decide +kernel, rfl⟩
theorem eX11_save_49 : zdi cX11_save 49 52 28 (.goto) := ⟨(-21), by decide +kernel, rfl, by decide⟩
theorem eX11_save_52 : zd 1 cX11_save 52 53 (.return_) := ⟨by decide +kernel, rfl⟩
theorem FX11_29 : zlF RX11 29 11 9 := ⟨(RX11, TX11, 34), rfl, by decide, q1080, zin11⟩
theorem FX11_54 : zlF RX11 54 11 27 := ⟨(RX11, TX11, 34), rfl, by decide, q1098, zin11⟩
theorem FX11_57 : zlF RX11 57 11 28 := ⟨(RX11, TX11, 34), rfl, by decide, q1099, zin11⟩
noncomputable def fB_Mo_save_2 (v0 : tMo) (ih : (Int32 × (Nat → Int64)) → Option (Int32 × (Nat → Int64))) (s1 : Int32 × (Nat → Int64)) : Option (Int32 × (Nat → Int64)) := (if 13 ≤ (s1.1) then (some ((s1.1), (s1.2))) else (if inb (s1.1) 13 = true then (if inb (s1.1) 13 = true then (ih (((s1.1) + 1), (vp_updL (s1.2) (ix (s1.1)) ((gMo_ship v0) (ix (s1.1)))))) else none) else none))
noncomputable def fB_Mo_save_28 (v0 : tMo) (ih : (Int32 × (Nat → Int32)) → Option (Int32 × (Nat → Int32))) (s9 : Int32 × (Nat → Int32)) : Option (Int32 × (Nat → Int32)) := (if 24 ≤ (s9.1) then (some ((s9.1), (s9.2))) else (if inb (s9.1) 24 = true then (if inb (s9.1) 24 = true then (ih (((s9.1) + 1), (upd (s9.2) (ix (s9.1)) ((gMo_lines v0) (ix (s9.1)))))) else none) else none))
noncomputable def f_Mo_save (v0 : tMo)  : Option ((Nat → Int64) × (Nat → Int32)) := (Option.bind (lp (fB_Mo_save_2 v0) LF (0, (gMo_wasShip v0))) (fun (q2 : Int32 × (Nat → Int64)) => (Option.bind (lp (fB_Mo_save_28 v0) LF (0, (gMo_wasLines v0))) (fun (q10 : Int32 × (Nat → Int32)) => (some ((q2.2), (q10.2)))))))
abbrev rm_Mo_save : Room := { frames := 0, cells := 0, slots := 0, locals := 0 }
set_option maxHeartbeats 4000000 in
set_option maxRecDepth 100000 in
theorem c_Mo_save (l : Launch) (g : zGl) (a0 : Nat → Nat) (o0 : Nat) (v0 : tMo)  (out : (Nat → Int64) × (Nat → Int32)) (hf : f_Mo_save v0 = some out) : zMv l yX11_save cX11_save 2 rm_Mo_save g [.ref (a0 o0)] (W_Mo g a0 o0 (gMo_ints v0) (gMo_told v0) (gMo_postX v0) (gMo_postStrong v0) (gMo_atRow v0) (gMo_heights v0) (gMo_ship v0) (gMo_lines v0) (gMo_text v0) (gMo_said v0) (gMo_readTold v0) (gMo_readX v0) (gMo_readStrong v0) (gMo_readRow v0) (gMo_parting v0) (gMo_wasShip v0) (gMo_wasLines v0) (gMo_worst v0) (gMo_logRow v0) (gMo_images v0) (gMo_isKept v0))  (W_Mo g a0 o0 (gMo_ints v0) (gMo_told v0) (gMo_postX v0) (gMo_postStrong v0) (gMo_atRow v0) (gMo_heights v0) (gMo_ship v0) (gMo_lines v0) (gMo_text v0) (gMo_said v0) (gMo_readTold v0) (gMo_readX v0) (gMo_readStrong v0) (gMo_readRow v0) (gMo_parting v0) (out.1) (out.2) (gMo_worst v0) (gMo_logRow v0) (gMo_images v0) (gMo_isKept v0)) := by
  refine zMv_of (lv := [(0, .ref (a0 o0))]) (by decide) (Nat.le_of_ble_eq_true rfl) rfl (fun x hl hg C hret => ?_)
  subst hl; subst hg
  rw [f_Mo_save] at hf
  refine r_iconst C (v := 0) eX11_save_0 (by decide) ?_
  refine r_istore_n C [(1, .int 0), (0, .ref (a0 o0))] eX11_save_1 rfl (by decide) rfl ?_
  obtain ⟨q2, h3, hf⟩ := zbind hf
  have J4 : vV x 2 0 0 (W_Mo (z_g x) a0 o0 (gMo_ints v0) (gMo_told v0) (gMo_postX v0) (gMo_postStrong v0) (gMo_atRow v0) (gMo_heights v0) (gMo_ship v0) (gMo_lines v0) (gMo_text v0) (gMo_said v0) (gMo_readTold v0) (gMo_readX v0) (gMo_readStrong v0) (gMo_readRow v0) (gMo_parting v0) (q2.2) (gMo_wasLines v0) (gMo_worst v0) (gMo_logRow v0) (gMo_images v0) (gMo_isKept v0)) 26 [(0, .ref (a0 o0))] [] := by
    refine r_iconst C (v := 0) eX11_save_26 (by decide) ?_
    refine r_istore_n C [(1, .int 0), (0, .ref (a0 o0))] eX11_save_27 rfl (by decide) rfl ?_
    obtain ⟨q10, h11, hf⟩ := zbind hf
    have J12 : vV x 2 0 0 (W_Mo (z_g x) a0 o0 (gMo_ints v0) (gMo_told v0) (gMo_postX v0) (gMo_postStrong v0) (gMo_atRow v0) (gMo_heights v0) (gMo_ship v0) (gMo_lines v0) (gMo_text v0) (gMo_said v0) (gMo_readTold v0) (gMo_readX v0) (gMo_readStrong v0) (gMo_readRow v0) (gMo_parting v0) (q2.2) (q10.2) (gMo_worst v0) (gMo_logRow v0) (gMo_images v0) (gMo_isKept v0)) 52 [] [] := by
      obtain rfl := Option.some.inj (show some (((q2.2), (q10.2)) : (Nat → Int64) × (Nat → Int32)) = some _ from hf)
      exact hret _ _ _ eX11_save_52
    have L13 : ∀ (nL13 : Nat) (s9 : Int32 × (Nat → Int32)), lp (fB_Mo_save_28 v0) nL13 s9 = some q10 → vV x 2 0 0 (W_Mo (z_g x) a0 o0 (gMo_ints v0) (gMo_told v0) (gMo_postX v0) (gMo_postStrong v0) (gMo_atRow v0) (gMo_heights v0) (gMo_ship v0) (gMo_lines v0) (gMo_text v0) (gMo_said v0) (gMo_readTold v0) (gMo_readX v0) (gMo_readStrong v0) (gMo_readRow v0) (gMo_parting v0) (q2.2) (s9.2) (gMo_worst v0) (gMo_logRow v0) (gMo_images v0) (gMo_isKept v0)) 28 [(0, .ref (a0 o0)), (1, .int (s9.1))] [] := by
      intro nL13
      induction nL13 with
      | zero => intro s9 hq; cases hq
      | succ nL13 ihL13 =>
        intro s9 hbL13
        rw [lp_succ, fB_Mo_save_28] at hbL13
        refine r_iload_n C eX11_save_28 1 rfl rfl ?_
        refine r_bipush C (v := 24) eX11_save_29 (by decide) ?_
        refine r_icmp_ge C eX11_save_31 (fun c14 => ?_) (fun c14 => ?_)
        · rw [if_pos c14] at hbL13
          obtain rfl := Option.some.inj hbL13
          refine r_sub (lv' := []) [] rfl ?_
          exact J12
        · rw [if_neg c14] at hbL13
          refine r_aload_n C eX11_save_34 0 rfl rfl ?_
          refine r_get (v := .ref (a0 (o0 + 15))) C eX11_save_35 FX11_57 0 rfl rfl ?_
          refine r_iload_n C eX11_save_38 1 rfl rfl ?_
          refine r_aload_n C eX11_save_39 0 rfl rfl ?_
          refine r_get (v := .ref (a0 (o0 + 7))) C eX11_save_40 FX11_29 0 rfl rfl ?_
          refine r_iload_n C eX11_save_43 1 rfl rfl ?_
          obtain ⟨hb15, hbL13⟩ := zchk hbL13
          refine r_iald C eX11_save_44 7 rfl (inb_in hb15) ((gMo_lines v0) (ix (s9.1))) rfl ?_
          obtain ⟨hb16, hbL13⟩ := zchk hbL13
          refine r_iast (ws' := W_Mo (z_g x) a0 o0 (gMo_ints v0) (gMo_told v0) (gMo_postX v0) (gMo_postStrong v0) (gMo_atRow v0) (gMo_heights v0) (gMo_ship v0) (gMo_lines v0) (gMo_text v0) (gMo_said v0) (gMo_readTold v0) (gMo_readX v0) (gMo_readStrong v0) (gMo_readRow v0) (gMo_parting v0) (q2.2) (upd (s9.2) (ix (s9.1)) ((gMo_lines v0) (ix (s9.1)))) (gMo_worst v0) (gMo_logRow v0) (gMo_images v0) (gMo_isKept v0)) C eX11_save_45 15 rfl (inb_in hb16) rfl ?_
          refine r_iinc C (v := ((s9.1) + 1)) [(1, .int ((s9.1) + 1)), (0, .ref (a0 o0))] eX11_save_46 1 rfl rfl (by decide) rfl ?_
          refine r_goto C eX11_save_49 ?_
          refine r_sub (lv' := [(0, .ref (a0 o0)), (1, .int ((s9.1) + 1))]) [1, 0] rfl ?_
          have hc := ihL13 (((s9.1) + 1), (upd (s9.2) (ix (s9.1)) ((gMo_lines v0) (ix (s9.1))))) hbL13
          exact hc
    refine r_sub (lv' := [(0, .ref (a0 o0)), (1, .int 0)]) [1, 0] rfl ?_
    have hc := L13 LF (0, (gMo_wasLines v0)) h11
    exact hc
  have L5 : ∀ (nL5 : Nat) (s1 : Int32 × (Nat → Int64)), lp (fB_Mo_save_2 v0) nL5 s1 = some q2 → vV x 2 0 0 (W_Mo (z_g x) a0 o0 (gMo_ints v0) (gMo_told v0) (gMo_postX v0) (gMo_postStrong v0) (gMo_atRow v0) (gMo_heights v0) (gMo_ship v0) (gMo_lines v0) (gMo_text v0) (gMo_said v0) (gMo_readTold v0) (gMo_readX v0) (gMo_readStrong v0) (gMo_readRow v0) (gMo_parting v0) (s1.2) (gMo_wasLines v0) (gMo_worst v0) (gMo_logRow v0) (gMo_images v0) (gMo_isKept v0)) 2 [(0, .ref (a0 o0)), (1, .int (s1.1))] [] := by
    intro nL5
    induction nL5 with
    | zero => intro s1 hq; cases hq
    | succ nL5 ihL5 =>
      intro s1 hbL5
      rw [lp_succ, fB_Mo_save_2] at hbL5
      refine r_iload_n C eX11_save_2 1 rfl rfl ?_
      refine r_bipush C (v := 13) eX11_save_3 (by decide) ?_
      refine r_icmp_ge C eX11_save_5 (fun c6 => ?_) (fun c6 => ?_)
      · rw [if_pos c6] at hbL5
        obtain rfl := Option.some.inj hbL5
        refine r_sub (lv' := [(0, .ref (a0 o0))]) [0] rfl ?_
        exact J4
      · rw [if_neg c6] at hbL5
        refine r_aload_n C eX11_save_8 0 rfl rfl ?_
        refine r_get (v := .ref (a0 (o0 + 14))) C eX11_save_9 FX11_54 0 rfl rfl ?_
        refine r_iload_n C eX11_save_12 1 rfl rfl ?_
        refine r_aload_n C eX11_save_13 0 rfl rfl ?_
        refine r_get (v := .ref (a0 (o0 + 6))) C eX11_save_14 FX11_25 0 rfl rfl ?_
        refine r_iload_n C eX11_save_17 1 rfl rfl ?_
        obtain ⟨hb7, hbL5⟩ := zchk hbL5
        refine r_lald C eX11_save_18 6 rfl (inb_in hb7) ((gMo_ship v0) (ix (s1.1))) rfl ?_
        obtain ⟨hb8, hbL5⟩ := zchk hbL5
        refine r_last (ws' := W_Mo (z_g x) a0 o0 (gMo_ints v0) (gMo_told v0) (gMo_postX v0) (gMo_postStrong v0) (gMo_atRow v0) (gMo_heights v0) (gMo_ship v0) (gMo_lines v0) (gMo_text v0) (gMo_said v0) (gMo_readTold v0) (gMo_readX v0) (gMo_readStrong v0) (gMo_readRow v0) (gMo_parting v0) (vp_updL (s1.2) (ix (s1.1)) ((gMo_ship v0) (ix (s1.1)))) (gMo_wasLines v0) (gMo_worst v0) (gMo_logRow v0) (gMo_images v0) (gMo_isKept v0)) C eX11_save_19 14 rfl (inb_in hb8) rfl ?_
        refine r_iinc C (v := ((s1.1) + 1)) [(1, .int ((s1.1) + 1)), (0, .ref (a0 o0))] eX11_save_20 1 rfl rfl (by decide) rfl ?_
        refine r_goto C eX11_save_23 ?_
        refine r_sub (lv' := [(0, .ref (a0 o0)), (1, .int ((s1.1) + 1))]) [1, 0] rfl ?_
        have hc := ihL5 (((s1.1) + 1), (vp_updL (s1.2) (ix (s1.1)) ((gMo_ship v0) (ix (s1.1))))) hbL5
        exact hc
  refine r_sub (lv' := [(0, .ref (a0 o0)), (1, .int 0)]) [1, 0] rfl ?_
  have hc := L5 LF (0, (gMo_wasShip v0)) h3
  exact hc
theorem eX11_in_0 : zd 1 cX11_in 0 1 (.lload_n 0) := ⟨by decide +kernel, rfl⟩
theorem eX11_in_1 : zd 1 cX11_in 1 2 (.lload_n 2) := ⟨by decide +kernel, rfl⟩
theorem eX11_in_2 : zd 1 cX11_in 2 3 (.lcmp) := ⟨by decide +kernel, rfl⟩
theorem eX11_in_3 : zdi cX11_in 3 6 17 (.ifCond .lt) := ⟨14, by decide +kernel, rfl, by decide⟩
theorem eX11_in_6 : zd 1 cX11_in 6 7 (.lload_n 0) := ⟨by decide +kernel, rfl⟩
theorem eX11_in_7 : zd 2 cX11_in 7 9 (.lload 4) := ⟨by decide +kernel, rfl⟩
theorem eX11_in_9 : zd 1 cX11_in 9 10 (.lcmp) := ⟨by decide +kernel, rfl⟩
theorem eX11_in_10 : zdi cX11_in 10 13 17 (.ifCond .gt) := ⟨7, by decide +kernel, rfl, by decide⟩
theorem eX11_in_13 : zd 1 cX11_in 13 14 (.iconst 1) := ⟨by decide +kernel, rfl⟩
theorem eX11_in_14 : zdi cX11_in 14 17 18 (.goto) := ⟨4, by decide +kernel, rfl, by decide⟩
theorem eX11_in_17 : zd 1 cX11_in 17 18 (.iconst 0) := ⟨by decide +kernel, rfl⟩
theorem eX11_in_18 : zd 1 cX11_in 18 19 (.ireturn) := ⟨by decide +kernel, rfl⟩
noncomputable def f_Mo_in  (p1 : Int64) (p2 : Int64) (p3 : Int64) : Int32 := (if p1 < p2 then 0 else (if p3 < p1 then 0 else 1))
abbrev rm_Mo_in : Room := { frames := 0, cells := 0, slots := 0, locals := 0 }
set_option maxHeartbeats 4000000 in
set_option maxRecDepth 100000 in
theorem c_Mo_in (l : Launch) (g : zGl)  (p1 : Int64) (p2 : Int64) (p3 : Int64) (out : Int32) (hf : f_Mo_in p1 p2 p3 = out) : zMz l yX11_in cX11_in 6 rm_Mo_in g [.long p1, .long p2, .long p3] ([]) out ([]) := by
  refine zMz_of (lv := [(0, .long p1), (2, .long p2), (4, .long p3)]) (by decide) (Nat.le_of_ble_eq_true rfl) rfl (fun x hl hg C hret => ?_)
  subst hl; subst hg
  rw [f_Mo_in] at hf
  refine r_lload_n C eX11_in_0 0 rfl rfl ?_
  refine r_lload_n C eX11_in_1 1 rfl rfl ?_
  refine r_lcmp_lt C eX11_in_2 eX11_in_3 (fun c1 => ?_) (fun c1 => ?_)
  · rw [if_pos c1] at hf
    refine r_iconst C (v := 0) eX11_in_17 (by decide) ?_
    subst hf
    exact hret _ _ _ eX11_in_18 zB0
  · rw [if_neg c1] at hf
    refine r_lload_n C eX11_in_6 0 rfl rfl ?_
    refine r_lload C eX11_in_7 2 rfl ?_
    refine r_lcmp_gt C eX11_in_9 eX11_in_10 (fun c2 => ?_) (fun c2 => ?_)
    · rw [if_pos c2] at hf
      refine r_iconst C (v := 0) eX11_in_17 (by decide) ?_
      subst hf
      exact hret _ _ _ eX11_in_18 zB0
    · rw [if_neg c2] at hf
      refine r_iconst C (v := 1) eX11_in_13 (by decide) ?_
      refine r_goto C eX11_in_14 ?_
      subst hf
      exact hret _ _ _ eX11_in_18 zB1
theorem eX11_isFast_0 : zd 1 cX11_isFast 0 1 (.iload_n 1) := ⟨by decide +kernel, rfl⟩
theorem eX11_isFast_1 : zd 1 cX11_isFast 1 2 (.i2l) := ⟨by decide +kernel, rfl⟩
theorem eX11_isFast_2 : zd 1 cX11_isFast 2 3 (.lconst 0) := ⟨by decide +kernel, rfl⟩
theorem eX11_isFast_3 : zd 3 cX11_isFast 3 6 (.ldc2_w 228) := ⟨by decide +kernel, rfl⟩
theorem eX11_isFast_6 : zd 3 cX11_isFast 6 9 (.invokestatic 86) := ⟨by decide +kernel, rfl⟩
theorem eX11_isFast_9 : zdi cX11_isFast 9 12 28 (.ifCond .eq) := ⟨19, by decide +kernel, rfl, by decide⟩
theorem eX11_isFast_12 : zd 1 cX11_isFast 12 13 (.aload_n 0) := ⟨by decide +kernel, rfl⟩
theorem eX11_isFast_13 : zd 3 cX11_isFast 13 16 (.getfield 29) := ⟨by decide +kernel, rfl⟩
theorem eX11_isFast_16 : zd 1 cX11_isFast 16 17 (.iconst 4) := ⟨by decide +kernel, rfl⟩
theorem eX11_isFast_17 : zd 1 cX11_isFast 17 18 (.iload_n 1) := ⟨by decide +kernel, rfl⟩
theorem eX11_isFast_18 : zd 1 cX11_isFast 18 19 (.imul) := ⟨by decide +kernel, rfl⟩
theorem eX11_isFast_19 : zd 1 cX11_isFast 19 20 (.iaload) := ⟨by decide +kernel, rfl⟩
theorem eX11_isFast_20 : zd 1 cX11_isFast 20 21 (.iconst 1) := ⟨by decide +kernel, rfl⟩
theorem eX11_isFast_21 : zdi cX11_isFast 21 24 28 (.if_icmp .ne) := ⟨7, by decide +kernel, rfl, by decide⟩
theorem eX11_isFast_24 : zd 1 cX11_isFast 24 25 (.iconst 1) := ⟨by decide +kernel, rfl⟩
theorem eX11_isFast_25 : zdi cX11_isFast 25 28 29 (.goto) := ⟨4, by decide +kernel, rfl, by decide⟩
theorem eX11_isFast_28 : zd 1 cX11_isFast 28 29 (.iconst 0) := ⟨by decide +kernel, rfl⟩
theorem eX11_isFast_29 : zd 1 cX11_isFast 29 30 (.ireturn) := ⟨by decide +kernel, rfl⟩
theorem MX11_86 : zlS RX11 86 yX11_in cX11_in 6 ((Option.some FieldType.boolean)) 3 := ⟨q1180, q1181, q12, q1182, by decide, by decide, by decide +kernel⟩
noncomputable def f_Mo_isFast (v0 : tMo) (p1 : Int32) : Option (Int32) := (if (f_Mo_in p1.toInt64 0 5) = 0 then (some 0) else (if inb (4 * p1) 24 = true then (if ((gMo_lines v0) (ix (4 * p1))) = 1 then (some 1) else (some 0)) else none))
abbrev rm_Mo_isFast : Room := { frames := 1, cells := 0, slots := 0, locals := 25 }
set_option maxHeartbeats 4000000 in
set_option maxRecDepth 100000 in
theorem c_Mo_isFast (l : Launch) (g : zGl) (a0 : Nat → Nat) (o0 : Nat) (v0 : tMo) (p1 : Int32) (out : Int32) (hf : f_Mo_isFast v0 p1 = some out) : zMz l yX11_isFast cX11_isFast 2 rm_Mo_isFast g [.ref (a0 o0), .int p1] (W_Mo g a0 o0 (gMo_ints v0) (gMo_told v0) (gMo_postX v0) (gMo_postStrong v0) (gMo_atRow v0) (gMo_heights v0) (gMo_ship v0) (gMo_lines v0) (gMo_text v0) (gMo_said v0) (gMo_readTold v0) (gMo_readX v0) (gMo_readStrong v0) (gMo_readRow v0) (gMo_parting v0) (gMo_wasShip v0) (gMo_wasLines v0) (gMo_worst v0) (gMo_logRow v0) (gMo_images v0) (gMo_isKept v0)) out (W_Mo g a0 o0 (gMo_ints v0) (gMo_told v0) (gMo_postX v0) (gMo_postStrong v0) (gMo_atRow v0) (gMo_heights v0) (gMo_ship v0) (gMo_lines v0) (gMo_text v0) (gMo_said v0) (gMo_readTold v0) (gMo_readX v0) (gMo_readStrong v0) (gMo_readRow v0) (gMo_parting v0) (gMo_wasShip v0) (gMo_wasLines v0) (gMo_worst v0) (gMo_logRow v0) (gMo_images v0) (gMo_isKept v0)) := by
  refine zMz_of (lv := [(0, .ref (a0 o0)), (1, .int p1)]) (by decide) (Nat.le_of_ble_eq_true rfl) rfl (fun x hl hg C hret => ?_)
  subst hl; subst hg
  rw [f_Mo_isFast] at hf
  refine r_iload_n C eX11_isFast_0 1 rfl rfl ?_
  refine r_i2l C eX11_isFast_1 ?_
  refine r_lconst C (v := 0) eX11_isFast_2 (by decide) ?_
  refine r_ldc2 C (v := 5) eX11_isFast_3 q1352 ?_
  refine r_S_z (ws' := W_Mo (z_g x) a0 o0 (gMo_ints v0) (gMo_told v0) (gMo_postX v0) (gMo_postStrong v0) (gMo_atRow v0) (gMo_heights v0) (gMo_ship v0) (gMo_lines v0) (gMo_text v0) (gMo_said v0) (gMo_readTold v0) (gMo_readX v0) (gMo_readStrong v0) (gMo_readRow v0) (gMo_parting v0) (gMo_wasShip v0) (gMo_wasLines v0) (gMo_worst v0) (gMo_logRow v0) (gMo_images v0) (gMo_isKept v0)) C (c_Mo_in (z_l x) (z_g x)  p1.toInt64 0 5 _ rfl) eX11_isFast_6 MX11_86 [] rfl rfl rfl rfl [0, 1, 2, 3, 4, 5, 6, 7, 8, 9, 10, 11, 12, 13, 14, 15, 16, 17, 18, 19] rfl ⟨rfl, rfl, rfl, rfl, rfl, rfl, rfl, rfl, rfl, rfl, rfl, rfl, rfl, rfl, rfl, rfl, rfl, rfl, rfl, rfl, trivial⟩ 20 rfl rfl rfl rfl rfl rfl (fun zb1 => ?_)
  refine r_if_eq C eX11_isFast_9 (fun c2 => ?_) (fun c2 => ?_)
  · rw [if_pos c2] at hf
    refine r_iconst C (v := 0) eX11_isFast_28 (by decide) ?_
    obtain rfl := Option.some.inj (show some (0 : Int32) = some _ from hf)
    exact hret _ _ _ eX11_isFast_29 zB0
  · rw [if_neg c2] at hf
    refine r_aload_n C eX11_isFast_12 0 rfl rfl ?_
    refine r_get (v := .ref (a0 (o0 + 7))) C eX11_isFast_13 FX11_29 0 rfl rfl ?_
    refine r_iconst C (v := 4) eX11_isFast_16 (by decide) ?_
    refine r_iload_n C eX11_isFast_17 1 rfl rfl ?_
    refine r_imul C eX11_isFast_18 ?_
    obtain ⟨hb3, hf⟩ := zchk hf
    refine r_iald C eX11_isFast_19 7 rfl (inb_in hb3) ((gMo_lines v0) (ix (4 * p1))) rfl ?_
    refine r_iconst C (v := 1) eX11_isFast_20 (by decide) ?_
    refine r_icmp_ne C eX11_isFast_21 (fun c4 => ?_) (fun c4 => ?_)
    · rw [if_neg c4] at hf
      refine r_iconst C (v := 0) eX11_isFast_28 (by decide) ?_
      obtain rfl := Option.some.inj (show some (0 : Int32) = some _ from hf)
      exact hret _ _ _ eX11_isFast_29 zB0
    · rw [if_pos c4] at hf
      refine r_iconst C (v := 1) eX11_isFast_24 (by decide) ?_
      refine r_goto C eX11_isFast_25 ?_
      obtain rfl := Option.some.inj (show some (1 : Int32) = some _ from hf)
      exact hret _ _ _ eX11_isFast_29 zB1
theorem eX11_freely_0 : zd 1 cX11_freely 0 1 (.aload_n 0) := ⟨by decide +kernel, rfl⟩
theorem eX11_freely_1 : zd 3 cX11_freely 1 4 (.getfield 25) := ⟨by decide +kernel, rfl⟩
theorem eX11_freely_4 : zd 1 cX11_freely 4 5 (.iconst 1) := ⟨by decide +kernel, rfl⟩
theorem eX11_freely_5 : zd 1 cX11_freely 5 6 (.laload) := ⟨by decide +kernel, rfl⟩
theorem eX11_freely_6 : zd 1 cX11_freely 6 7 (.aload_n 0) := ⟨by decide +kernel, rfl⟩
theorem eX11_freely_7 : zd 1 cX11_freely 7 8 (.iload_n 1) := ⟨by decide +kernel, rfl⟩
theorem eX11_freely_8 : zd 3 cX11_freely 8 11 (.invokevirtual 205) := ⟨by decide +kernel, rfl⟩
theorem eX11_freely_11 : zd 1 cX11_freely 11 12 (.aload_n 0) := ⟨by decide +kernel, rfl⟩
theorem eX11_freely_12 : zd 3 cX11_freely 12 15 (.getfield 25) := ⟨by decide +kernel, rfl⟩
theorem eX11_freely_15 : zd 1 cX11_freely 15 16 (.iconst 2) := ⟨by decide +kernel, rfl⟩
theorem eX11_freely_16 : zd 1 cX11_freely 16 17 (.laload) := ⟨by decide +kernel, rfl⟩
theorem eX11_freely_17 : zd 1 cX11_freely 17 18 (.lmul) := ⟨by decide +kernel, rfl⟩
theorem eX11_freely_18 : zd 3 cX11_freely 18 21 (.ldc2_w 209) := ⟨by decide +kernel, rfl⟩
theorem eX11_freely_21 : zd 1 cX11_freely 21 22 (.ldiv) := ⟨by decide +kernel, rfl⟩
theorem eX11_freely_22 : zd 1 cX11_freely 22 23 (.lsub) := ⟨by decide +kernel, rfl⟩
theorem eX11_freely_23 : zd 1 cX11_freely 23 24 (.lreturn) := ⟨by decide +kernel, rfl⟩
noncomputable def f_Mo_freely (v0 : tMo) (p1 : Int32) : Int64 := (((gMo_ship v0) 1) - (((f_Mo_arm v0 p1) * ((gMo_ship v0) 2)) / 57296))
abbrev rm_Mo_freely : Room := { frames := 1, cells := 0, slots := 0, locals := 21 }
set_option maxHeartbeats 4000000 in
set_option maxRecDepth 100000 in
theorem c_Mo_freely (l : Launch) (g : zGl) (a0 : Nat → Nat) (o0 : Nat) (v0 : tMo) (p1 : Int32) (out : Int64) (hf : f_Mo_freely v0 p1 = out) : zMl l yX11_freely cX11_freely 2 rm_Mo_freely g [.ref (a0 o0), .int p1] (W_Mo g a0 o0 (gMo_ints v0) (gMo_told v0) (gMo_postX v0) (gMo_postStrong v0) (gMo_atRow v0) (gMo_heights v0) (gMo_ship v0) (gMo_lines v0) (gMo_text v0) (gMo_said v0) (gMo_readTold v0) (gMo_readX v0) (gMo_readStrong v0) (gMo_readRow v0) (gMo_parting v0) (gMo_wasShip v0) (gMo_wasLines v0) (gMo_worst v0) (gMo_logRow v0) (gMo_images v0) (gMo_isKept v0)) out (W_Mo g a0 o0 (gMo_ints v0) (gMo_told v0) (gMo_postX v0) (gMo_postStrong v0) (gMo_atRow v0) (gMo_heights v0) (gMo_ship v0) (gMo_lines v0) (gMo_text v0) (gMo_said v0) (gMo_readTold v0) (gMo_readX v0) (gMo_readStrong v0) (gMo_readRow v0) (gMo_parting v0) (gMo_wasShip v0) (gMo_wasLines v0) (gMo_worst v0) (gMo_logRow v0) (gMo_images v0) (gMo_isKept v0)) := by
  refine zMl_of (lv := [(0, .ref (a0 o0)), (1, .int p1)]) (by decide) (Nat.le_of_ble_eq_true rfl) rfl (fun x hl hg C hret => ?_)
  subst hl; subst hg
  rw [f_Mo_freely] at hf
  refine r_aload_n C eX11_freely_0 0 rfl rfl ?_
  refine r_get (v := .ref (a0 (o0 + 6))) C eX11_freely_1 FX11_25 0 rfl rfl ?_
  refine r_iconst C (v := 1) eX11_freely_4 (by decide) ?_
  refine r_laldN C eX11_freely_5 6 1 (by decide) rfl ((gMo_ship v0) 1) rfl ?_
  refine r_aload_n C eX11_freely_6 0 rfl rfl ?_
  refine r_iload_n C eX11_freely_7 1 rfl rfl ?_
  refine r_V_l (ws' := W_Mo (z_g x) a0 o0 (gMo_ints v0) (gMo_told v0) (gMo_postX v0) (gMo_postStrong v0) (gMo_atRow v0) (gMo_heights v0) (gMo_ship v0) (gMo_lines v0) (gMo_text v0) (gMo_said v0) (gMo_readTold v0) (gMo_readX v0) (gMo_readStrong v0) (gMo_readRow v0) (gMo_parting v0) (gMo_wasShip v0) (gMo_wasLines v0) (gMo_worst v0) (gMo_logRow v0) (gMo_images v0) (gMo_isKept v0)) C (c_Mo_arm (z_l x) (z_g x) a0 o0 v0 p1 _ rfl) eX11_freely_8 MX11_205 ⟨0, 11, _, _, rfl, rfl, rfl⟩ [0, 1, 2, 3, 4, 5, 6, 7, 8, 9, 10, 11, 12, 13, 14, 15, 16, 17, 18, 19] rfl rfl rfl rfl [] rfl trivial 20 rfl rfl rfl rfl rfl rfl ?_
  refine r_aload_n C eX11_freely_11 0 rfl rfl ?_
  refine r_get (v := .ref (a0 (o0 + 6))) C eX11_freely_12 FX11_25 0 rfl rfl ?_
  refine r_iconst C (v := 2) eX11_freely_15 (by decide) ?_
  refine r_laldN C eX11_freely_16 6 2 (by decide) rfl ((gMo_ship v0) 2) rfl ?_
  refine r_lmul C eX11_freely_17 ?_
  refine r_ldc2 C (v := 57296) eX11_freely_18 q1316 ?_
  refine r_ldiv C eX11_freely_21 (by decide) ?_
  refine r_lsub C eX11_freely_22 ?_
  subst hf
  exact hret _ _ _ eX11_freely_23
theorem eX11_offOf_0 : zd 1 cX11_offOf 0 1 (.aload_n 0) := ⟨by decide +kernel, rfl⟩
theorem eX11_offOf_1 : zd 1 cX11_offOf 1 2 (.iload_n 1) := ⟨by decide +kernel, rfl⟩
theorem eX11_offOf_2 : zd 3 cX11_offOf 2 5 (.invokevirtual 211) := ⟨by decide +kernel, rfl⟩
theorem eX11_offOf_5 : zd 1 cX11_offOf 5 6 (.lstore_n 2) := ⟨by decide +kernel, rfl⟩
theorem eX11_offOf_6 : zd 1 cX11_offOf 6 7 (.lload_n 2) := ⟨by decide +kernel, rfl⟩
theorem eX11_offOf_7 : zd 1 cX11_offOf 7 8 (.lconst 0) := ⟨by decide +kernel, rfl⟩
theorem eX11_offOf_8 : zd 1 cX11_offOf 8 9 (.lcmp) := ⟨by decide +kernel, rfl⟩
theorem eX11_offOf_9 : zdi cX11_offOf 9 12 16 (.ifCond .ge) := ⟨7, by decide +kernel, rfl, by decide⟩
theorem eX11_offOf_12 : zd 1 cX11_offOf 12 13 (.lconst 0) := ⟨by decide +kernel, rfl⟩
theorem eX11_offOf_13 : zdi cX11_offOf 13 16 17 (.goto) := ⟨4, by decide +kernel, rfl, by decide⟩
theorem eX11_offOf_16 : zd 1 cX11_offOf 16 17 (.lload_n 2) := ⟨by decide +kernel, rfl⟩
theorem eX11_offOf_17 : zd 1 cX11_offOf 17 18 (.lreturn) := ⟨by decide +kernel, rfl⟩
theorem MX11_211 : zlV RX11 211 yX11_freely cX11_freely 2 ((Option.some FieldType.long)) 1 := ⟨q1307, q1309, qs40, q12, q1310, by decide, by decide, by decide +kernel⟩
noncomputable def f_Mo_offOf (v0 : tMo) (p1 : Int32) : Int64 := (zlet (f_Mo_freely v0 p1) (fun (z1 : Int64) => (if 0 ≤ z1 then z1 else 0)))
abbrev rm_Mo_offOf : Room := { frames := 2, cells := 0, slots := 0, locals := 42 }
set_option maxHeartbeats 4000000 in
set_option maxRecDepth 100000 in
theorem c_Mo_offOf (l : Launch) (g : zGl) (a0 : Nat → Nat) (o0 : Nat) (v0 : tMo) (p1 : Int32) (out : Int64) (hf : f_Mo_offOf v0 p1 = out) : zMl l yX11_offOf cX11_offOf 4 rm_Mo_offOf g [.ref (a0 o0), .int p1] (W_Mo g a0 o0 (gMo_ints v0) (gMo_told v0) (gMo_postX v0) (gMo_postStrong v0) (gMo_atRow v0) (gMo_heights v0) (gMo_ship v0) (gMo_lines v0) (gMo_text v0) (gMo_said v0) (gMo_readTold v0) (gMo_readX v0) (gMo_readStrong v0) (gMo_readRow v0) (gMo_parting v0) (gMo_wasShip v0) (gMo_wasLines v0) (gMo_worst v0) (gMo_logRow v0) (gMo_images v0) (gMo_isKept v0)) out (W_Mo g a0 o0 (gMo_ints v0) (gMo_told v0) (gMo_postX v0) (gMo_postStrong v0) (gMo_atRow v0) (gMo_heights v0) (gMo_ship v0) (gMo_lines v0) (gMo_text v0) (gMo_said v0) (gMo_readTold v0) (gMo_readX v0) (gMo_readStrong v0) (gMo_readRow v0) (gMo_parting v0) (gMo_wasShip v0) (gMo_wasLines v0) (gMo_worst v0) (gMo_logRow v0) (gMo_images v0) (gMo_isKept v0)) := by
  refine zMl_of (lv := [(0, .ref (a0 o0)), (1, .int p1)]) (by decide) (Nat.le_of_ble_eq_true rfl) rfl (fun x hl hg C hret => ?_)
  subst hl; subst hg
  rw [f_Mo_offOf] at hf
  refine r_aload_n C eX11_offOf_0 0 rfl rfl ?_
  refine r_iload_n C eX11_offOf_1 1 rfl rfl ?_
  refine r_V_l (ws' := W_Mo (z_g x) a0 o0 (gMo_ints v0) (gMo_told v0) (gMo_postX v0) (gMo_postStrong v0) (gMo_atRow v0) (gMo_heights v0) (gMo_ship v0) (gMo_lines v0) (gMo_text v0) (gMo_said v0) (gMo_readTold v0) (gMo_readX v0) (gMo_readStrong v0) (gMo_readRow v0) (gMo_parting v0) (gMo_wasShip v0) (gMo_wasLines v0) (gMo_worst v0) (gMo_logRow v0) (gMo_images v0) (gMo_isKept v0)) C (c_Mo_freely (z_l x) (z_g x) a0 o0 v0 p1 _ rfl) eX11_offOf_2 MX11_211 ⟨0, 11, _, _, rfl, rfl, rfl⟩ [0, 1, 2, 3, 4, 5, 6, 7, 8, 9, 10, 11, 12, 13, 14, 15, 16, 17, 18, 19] rfl rfl rfl rfl [] rfl trivial 20 rfl rfl rfl rfl rfl rfl ?_
  obtain ⟨z1, hz1, hf⟩ := zlet_of hf
  refine r_naml hz1 ?_
  refine r_lstore_n C [(2, .long z1), (0, .ref (a0 o0)), (1, .int p1)] eX11_offOf_5 rfl (by decide) rfl ?_
  refine r_lload_n C eX11_offOf_6 0 rfl rfl ?_
  refine r_lconst C (v := 0) eX11_offOf_7 (by decide) ?_
  refine r_lcmp_ge C eX11_offOf_8 eX11_offOf_9 (fun c2 => ?_) (fun c2 => ?_)
  · rw [if_pos c2] at hf
    refine r_lload_n C eX11_offOf_16 0 rfl rfl ?_
    subst hf
    exact hret _ _ _ eX11_offOf_17
  · rw [if_neg c2] at hf
    refine r_lconst C (v := 0) eX11_offOf_12 (by decide) ?_
    refine r_goto C eX11_offOf_13 ?_
    subst hf
    exact hret _ _ _ eX11_offOf_17
theorem eX11_root_0 : zd 1 cX11_root 0 1 (.lconst 0) := ⟨by decide +kernel, rfl⟩
theorem eX11_root_1 : zd 1 cX11_root 1 2 (.lstore_n 2) := ⟨by decide +kernel, rfl⟩
theorem eX11_root_2 : zd 3 cX11_root 2 5 (.ldc2_w 214) := ⟨by decide +kernel, rfl⟩
theorem eX11_root_5 : zd 2 cX11_root 5 7 (.lstore 4) := ⟨by decide +kernel, rfl⟩
theorem eX11_root_7 : zd 1 cX11_root 7 8 (.lload_n 2) := ⟨by decide +kernel, rfl⟩
theorem eX11_root_8 : zd 2 cX11_root 8 10 (.lload 4) := ⟨by decide +kernel, rfl⟩
theorem eX11_root_10 : zd 1 cX11_root 10 11 (.lcmp) := ⟨by decide +kernel, rfl⟩
theorem eX11_root_11 : zdi cX11_root 11 14 51 (.ifCond .ge) := ⟨40, by decide +kernel, rfl, by decide⟩
theorem eX11_root_14 : zd 1 cX11_root 14 15 (.lload_n 2) := ⟨by decide +kernel, rfl⟩
theorem eX11_root_15 : zd 2 cX11_root 15 17 (.lload 4) := ⟨by decide +kernel, rfl⟩
theorem eX11_root_17 : zd 1 cX11_root 17 18 (.ladd) := ⟨by decide +kernel, rfl⟩
theorem eX11_root_18 : zd 1 cX11_root 18 19 (.lconst 1) := ⟨by decide +kernel, rfl⟩
theorem eX11_root_19 : zd 1 cX11_root 19 20 (.ladd) := ⟨by decide +kernel, rfl⟩
theorem eX11_root_20 : zd 3 cX11_root 20 23 (.ldc2_w 216) := ⟨by decide +kernel, rfl⟩
theorem eX11_root_23 : zd 1 cX11_root 23 24 (.ldiv) := ⟨by decide +kernel, rfl⟩
theorem eX11_root_24 : zd 2 cX11_root 24 26 (.lstore 6) := ⟨by decide +kernel, rfl⟩
theorem eX11_root_26 : zd 2 cX11_root 26 28 (.lload 6) := ⟨by decide +kernel, rfl⟩
theorem eX11_root_28 : zd 2 cX11_root 28 30 (.lload 6) := ⟨by decide +kernel, rfl⟩
theorem eX11_root_30 : zd 1 cX11_root 30 31 (.lmul) := ⟨by decide +kernel, rfl⟩
theorem eX11_root_31 : zd 1 cX11_root 31 32 (.lload_n 0) := ⟨by decide +kernel, rfl⟩
theorem eX11_root_32 : zd 1 cX11_root 32 33 (.lcmp) := ⟨by decide +kernel, rfl⟩
theorem eX11_root_33 : zdi cX11_root 33 36 42 (.ifCond .gt) := ⟨9, by decide +kernel, rfl, by decide⟩
theorem eX11_root_36 : zd 2 cX11_root 36 38 (.lload 6) := ⟨by decide +kernel, rfl⟩
theorem eX11_root_38 : zd 1 cX11_root 38 39 (.lstore_n 2) := ⟨by decide +kernel, rfl⟩
theorem eX11_root_39 : zdi cX11_root 39 42 48 (.goto) := ⟨9, by decide +kernel, rfl, by decide⟩
theorem eX11_root_42 : zd 2 cX11_root 42 44 (.lload 6) := ⟨by decide +kernel, rfl⟩
theorem eX11_root_44 : zd 1 cX11_root 44 45 (.lconst 1) := ⟨by decide +kernel, rfl⟩
theorem eX11_root_45 : zd 1 cX11_root 45 46 (.lsub) := ⟨by decide +kernel, rfl⟩
theorem eX11_root_46 : zd 2 cX11_root 46 48 (.lstore 4) := ⟨by decide +kernel, rfl⟩
theorem eX11_root_48 : zdi cX11_root 48 51 7 (.goto) := ⟨(-41), by decide +kernel, rfl, by decide⟩
theorem eX11_root_51 : zd 1 cX11_root 51 52 (.lload_n 2) := ⟨by decide +kernel, rfl⟩
theorem eX11_root_52 : zd 1 cX11_root 52 53 (.lreturn) := ⟨by decide +kernel, rfl⟩
noncomputable def fB_Mo_root_7 (p1 : Int64) (ih : (Int64 × Int64) → Option (Int64 × Int64)) (s1 : Int64 × Int64) : Option (Int64 × Int64) := (if (s1.2) ≤ (s1.1) then (some ((s1.1), (s1.2))) else (zlet ((((s1.1) + (s1.2)) + 1) / 2) (fun (z7 : Int64) => (if p1 < (z7 * z7) then (zlet (z7 - 1) (fun (z9 : Int64) => (ih ((s1.1), z9)))) else (ih (z7, (s1.2)))))))
noncomputable def f_Mo_root  (p1 : Int64) : Option (Int64) := (Option.bind (lp (fB_Mo_root_7 p1) LF (0, 3000000000)) (fun (q2 : Int64 × Int64) => (some (q2.1))))
abbrev rm_Mo_root : Room := { frames := 0, cells := 0, slots := 0, locals := 0 }
set_option maxHeartbeats 4000000 in
set_option maxRecDepth 100000 in
theorem c_Mo_root (l : Launch) (g : zGl)  (p1 : Int64) (out : Int64) (hf : f_Mo_root p1 = some out) : zMl l yX11_root cX11_root 8 rm_Mo_root g [.long p1] ([]) out ([]) := by
  refine zMl_of (lv := [(0, .long p1)]) (by decide) (Nat.le_of_ble_eq_true rfl) rfl (fun x hl hg C hret => ?_)
  subst hl; subst hg
  rw [f_Mo_root] at hf
  refine r_lconst C (v := 0) eX11_root_0 (by decide) ?_
  refine r_lstore_n C [(2, .long 0), (0, .long p1)] eX11_root_1 rfl (by decide) rfl ?_
  refine r_ldc2 C (v := 3000000000) eX11_root_2 q1364 ?_
  refine r_lstore C [(4, .long 3000000000), (2, .long 0), (0, .long p1)] eX11_root_5 (by decide) rfl ?_
  obtain ⟨q2, h3, hf⟩ := zbind hf
  have J4 : vV x 8 0 0 ([]) 51 [(2, .long (q2.1))] [] := by
    refine r_lload_n C eX11_root_51 0 rfl rfl ?_
    obtain rfl := Option.some.inj (show some ((q2.1) : Int64) = some _ from hf)
    exact hret _ _ _ eX11_root_52
  have L5 : ∀ (nL5 : Nat) (s1 : Int64 × Int64), lp (fB_Mo_root_7 p1) nL5 s1 = some q2 → vV x 8 0 0 ([]) 7 [(0, .long p1), (2, .long (s1.1)), (4, .long (s1.2))] [] := by
    intro nL5
    induction nL5 with
    | zero => intro s1 hq; cases hq
    | succ nL5 ihL5 =>
      intro s1 hbL5
      rw [lp_succ, fB_Mo_root_7] at hbL5
      refine r_lload_n C eX11_root_7 1 rfl rfl ?_
      refine r_lload C eX11_root_8 2 rfl ?_
      refine r_lcmp_ge C eX11_root_10 eX11_root_11 (fun c6 => ?_) (fun c6 => ?_)
      · rw [if_pos c6] at hbL5
        obtain rfl := Option.some.inj hbL5
        refine r_sub (lv' := [(2, .long (s1.1))]) [1] rfl ?_
        exact J4
      · rw [if_neg c6] at hbL5
        refine r_lload_n C eX11_root_14 1 rfl rfl ?_
        refine r_lload C eX11_root_15 2 rfl ?_
        refine r_ladd C eX11_root_17 ?_
        refine r_lconst C (v := 1) eX11_root_18 (by decide) ?_
        refine r_ladd C eX11_root_19 ?_
        refine r_ldc2 C (v := 2) eX11_root_20 q1365 ?_
        refine r_ldiv C eX11_root_23 (by decide) ?_
        obtain ⟨z7, hz7, hbL5⟩ := zlet_of hbL5
        refine r_naml hz7 ?_
        refine r_lstore C [(6, .long z7), (0, .long p1), (2, .long (s1.1)), (4, .long (s1.2))] eX11_root_24 (by decide) rfl ?_
        refine r_lload C eX11_root_26 0 rfl ?_
        refine r_lload C eX11_root_28 0 rfl ?_
        refine r_lmul C eX11_root_30 ?_
        refine r_lload_n C eX11_root_31 1 rfl rfl ?_
        refine r_lcmp_gt C eX11_root_32 eX11_root_33 (fun c8 => ?_) (fun c8 => ?_)
        · rw [if_pos c8] at hbL5
          refine r_lload C eX11_root_42 0 rfl ?_
          refine r_lconst C (v := 1) eX11_root_44 (by decide) ?_
          refine r_lsub C eX11_root_45 ?_
          obtain ⟨z9, hz9, hbL5⟩ := zlet_of hbL5
          refine r_naml hz9 ?_
          refine r_lstore C [(4, .long z9), (6, .long z7), (0, .long p1), (2, .long (s1.1))] eX11_root_46 (by decide) rfl ?_
          refine r_goto C eX11_root_48 ?_
          refine r_sub (lv' := [(0, .long p1), (2, .long (s1.1)), (4, .long z9)]) [2, 3, 0] rfl ?_
          have hc := ihL5 ((s1.1), z9) hbL5
          exact hc
        · rw [if_neg c8] at hbL5
          refine r_lload C eX11_root_36 0 rfl ?_
          refine r_lstore_n C [(2, .long z7), (6, .long z7), (0, .long p1), (4, .long (s1.2))] eX11_root_38 rfl (by decide) rfl ?_
          refine r_goto C eX11_root_39 ?_
          refine r_goto C eX11_root_48 ?_
          refine r_sub (lv' := [(0, .long p1), (2, .long z7), (4, .long (s1.2))]) [2, 0, 3] rfl ?_
          have hc := ihL5 (z7, (s1.2)) hbL5
          exact hc
  refine r_sub (lv' := [(0, .long p1), (2, .long 0), (4, .long 3000000000)]) [2, 1, 0] rfl ?_
  have hc := L5 LF (0, 3000000000) h3
  exact hc
theorem eX11_distance_0 : zd 1 cX11_distance 0 1 (.aload_n 0) := ⟨by decide +kernel, rfl⟩
theorem eX11_distance_1 : zd 3 cX11_distance 1 4 (.getfield 13) := ⟨by decide +kernel, rfl⟩
theorem eX11_distance_4 : zd 1 cX11_distance 4 5 (.iload_n 2) := ⟨by decide +kernel, rfl⟩
theorem eX11_distance_5 : zd 1 cX11_distance 5 6 (.iaload) := ⟨by decide +kernel, rfl⟩
theorem eX11_distance_6 : zd 1 cX11_distance 6 7 (.i2l) := ⟨by decide +kernel, rfl⟩
theorem eX11_distance_7 : zd 1 cX11_distance 7 8 (.aload_n 0) := ⟨by decide +kernel, rfl⟩
theorem eX11_distance_8 : zd 1 cX11_distance 8 9 (.iload_n 1) := ⟨by decide +kernel, rfl⟩
theorem eX11_distance_9 : zd 3 cX11_distance 9 12 (.invokevirtual 218) := ⟨by decide +kernel, rfl⟩
theorem eX11_distance_12 : zd 1 cX11_distance 12 13 (.lsub) := ⟨by decide +kernel, rfl⟩
theorem eX11_distance_13 : zd 1 cX11_distance 13 14 (.lstore_n 3) := ⟨by decide +kernel, rfl⟩
theorem eX11_distance_14 : zd 1 cX11_distance 14 15 (.aload_n 0) := ⟨by decide +kernel, rfl⟩
theorem eX11_distance_15 : zd 1 cX11_distance 15 16 (.iload_n 1) := ⟨by decide +kernel, rfl⟩
theorem eX11_distance_16 : zd 3 cX11_distance 16 19 (.invokevirtual 221) := ⟨by decide +kernel, rfl⟩
theorem eX11_distance_19 : zd 2 cX11_distance 19 21 (.lstore 5) := ⟨by decide +kernel, rfl⟩
theorem eX11_distance_21 : zd 1 cX11_distance 21 22 (.lload_n 3) := ⟨by decide +kernel, rfl⟩
theorem eX11_distance_22 : zd 1 cX11_distance 22 23 (.lload_n 3) := ⟨by decide +kernel, rfl⟩
theorem eX11_distance_23 : zd 1 cX11_distance 23 24 (.lmul) := ⟨by decide +kernel, rfl⟩
theorem eX11_distance_24 : zd 2 cX11_distance 24 26 (.lload 5) := ⟨by decide +kernel, rfl⟩
theorem eX11_distance_26 : zd 2 cX11_distance 26 28 (.lload 5) := ⟨by decide +kernel, rfl⟩
theorem eX11_distance_28 : zd 1 cX11_distance 28 29 (.lmul) := ⟨by decide +kernel, rfl⟩
theorem eX11_distance_29 : zd 1 cX11_distance 29 30 (.ladd) := ⟨by decide +kernel, rfl⟩
theorem eX11_distance_30 : zd 3 cX11_distance 30 33 (.invokestatic 224) := ⟨by decide +kernel, rfl⟩
theorem eX11_distance_33 : zd 1 cX11_distance 33 34 (.lreturn) := ⟨by decide +kernel, rfl⟩
theorem FX11_13 : zlF RX11 13 11 2 := ⟨(RX11, TX11, 34), rfl, by decide, q1073, zin11⟩
theorem MX11_218 : zlV RX11 218 yX11_along cX11_along 2 ((Option.some FieldType.long)) 1 := ⟨q1326, q1328, qs43, q12, q1329, by decide, by decide, by decide +kernel⟩
theorem MX11_221 : zlV RX11 221 yX11_offOf cX11_offOf 4 ((Option.some FieldType.long)) 1 := ⟨q1303, q1305, qs39, q12, q1306, by decide, by decide, by decide +kernel⟩
theorem MX11_224 : zlS RX11 224 yX11_root cX11_root 8 ((Option.some FieldType.long)) 1 := ⟨q1361, q1362, q12, q1363, by decide, by decide, by decide +kernel⟩
noncomputable def f_Mo_distance (v0 : tMo) (p1 : Int32) (p2 : Int32) : Option (Int64) := (if inb p2 12 = true then (zlet (((gMo_postX v0) (ix p2)).toInt64 - (f_Mo_along v0 p1)) (fun (z2 : Int64) => (zlet (f_Mo_offOf v0 p1) (fun (z3 : Int64) => (Option.bind (f_Mo_root ((z2 * z2) + (z3 * z3))) (fun (r4 : Int64) => (some r4))))))) else none)
abbrev rm_Mo_distance : Room := { frames := 3, cells := 0, slots := 0, locals := 65 }
set_option maxHeartbeats 4000000 in
set_option maxRecDepth 100000 in
theorem c_Mo_distance (l : Launch) (g : zGl) (a0 : Nat → Nat) (o0 : Nat) (v0 : tMo) (p1 : Int32) (p2 : Int32) (out : Int64) (hf : f_Mo_distance v0 p1 p2 = some out) : zMl l yX11_distance cX11_distance 7 rm_Mo_distance g [.ref (a0 o0), .int p1, .int p2] (W_Mo g a0 o0 (gMo_ints v0) (gMo_told v0) (gMo_postX v0) (gMo_postStrong v0) (gMo_atRow v0) (gMo_heights v0) (gMo_ship v0) (gMo_lines v0) (gMo_text v0) (gMo_said v0) (gMo_readTold v0) (gMo_readX v0) (gMo_readStrong v0) (gMo_readRow v0) (gMo_parting v0) (gMo_wasShip v0) (gMo_wasLines v0) (gMo_worst v0) (gMo_logRow v0) (gMo_images v0) (gMo_isKept v0)) out (W_Mo g a0 o0 (gMo_ints v0) (gMo_told v0) (gMo_postX v0) (gMo_postStrong v0) (gMo_atRow v0) (gMo_heights v0) (gMo_ship v0) (gMo_lines v0) (gMo_text v0) (gMo_said v0) (gMo_readTold v0) (gMo_readX v0) (gMo_readStrong v0) (gMo_readRow v0) (gMo_parting v0) (gMo_wasShip v0) (gMo_wasLines v0) (gMo_worst v0) (gMo_logRow v0) (gMo_images v0) (gMo_isKept v0)) := by
  refine zMl_of (lv := [(0, .ref (a0 o0)), (1, .int p1), (2, .int p2)]) (by decide) (Nat.le_of_ble_eq_true rfl) rfl (fun x hl hg C hret => ?_)
  subst hl; subst hg
  rw [f_Mo_distance] at hf
  refine r_aload_n C eX11_distance_0 0 rfl rfl ?_
  refine r_get (v := .ref (a0 (o0 + 2))) C eX11_distance_1 FX11_13 0 rfl rfl ?_
  refine r_iload_n C eX11_distance_4 2 rfl rfl ?_
  obtain ⟨hb1, hf⟩ := zchk hf
  refine r_iald C eX11_distance_5 2 rfl (inb_in hb1) ((gMo_postX v0) (ix p2)) rfl ?_
  refine r_i2l C eX11_distance_6 ?_
  refine r_aload_n C eX11_distance_7 0 rfl rfl ?_
  refine r_iload_n C eX11_distance_8 1 rfl rfl ?_
  refine r_V_l (ws' := W_Mo (z_g x) a0 o0 (gMo_ints v0) (gMo_told v0) (gMo_postX v0) (gMo_postStrong v0) (gMo_atRow v0) (gMo_heights v0) (gMo_ship v0) (gMo_lines v0) (gMo_text v0) (gMo_said v0) (gMo_readTold v0) (gMo_readX v0) (gMo_readStrong v0) (gMo_readRow v0) (gMo_parting v0) (gMo_wasShip v0) (gMo_wasLines v0) (gMo_worst v0) (gMo_logRow v0) (gMo_images v0) (gMo_isKept v0)) C (c_Mo_along (z_l x) (z_g x) a0 o0 v0 p1 _ rfl) eX11_distance_9 MX11_218 ⟨0, 11, _, _, rfl, rfl, rfl⟩ [0, 1, 2, 3, 4, 5, 6, 7, 8, 9, 10, 11, 12, 13, 14, 15, 16, 17, 18, 19] rfl rfl rfl rfl [] rfl trivial 20 rfl rfl rfl rfl rfl rfl ?_
  refine r_lsub C eX11_distance_12 ?_
  obtain ⟨z2, hz2, hf⟩ := zlet_of hf
  refine r_naml hz2 ?_
  refine r_lstore_n C [(3, .long z2), (0, .ref (a0 o0)), (1, .int p1), (2, .int p2)] eX11_distance_13 rfl (by decide) rfl ?_
  refine r_aload_n C eX11_distance_14 1 rfl rfl ?_
  refine r_iload_n C eX11_distance_15 2 rfl rfl ?_
  refine r_V_l (ws' := W_Mo (z_g x) a0 o0 (gMo_ints v0) (gMo_told v0) (gMo_postX v0) (gMo_postStrong v0) (gMo_atRow v0) (gMo_heights v0) (gMo_ship v0) (gMo_lines v0) (gMo_text v0) (gMo_said v0) (gMo_readTold v0) (gMo_readX v0) (gMo_readStrong v0) (gMo_readRow v0) (gMo_parting v0) (gMo_wasShip v0) (gMo_wasLines v0) (gMo_worst v0) (gMo_logRow v0) (gMo_images v0) (gMo_isKept v0)) C (c_Mo_offOf (z_l x) (z_g x) a0 o0 v0 p1 _ rfl) eX11_distance_16 MX11_221 ⟨0, 11, _, _, rfl, rfl, rfl⟩ [0, 1, 2, 3, 4, 5, 6, 7, 8, 9, 10, 11, 12, 13, 14, 15, 16, 17, 18, 19] rfl rfl rfl rfl [] rfl trivial 20 rfl rfl rfl rfl rfl rfl ?_
  obtain ⟨z3, hz3, hf⟩ := zlet_of hf
  refine r_naml hz3 ?_
  refine r_lstore C [(5, .long z3), (3, .long z2), (0, .ref (a0 o0)), (1, .int p1), (2, .int p2)] eX11_distance_19 (by decide) rfl ?_
  refine r_lload_n C eX11_distance_21 1 rfl rfl ?_
  refine r_lload_n C eX11_distance_22 1 rfl rfl ?_
  refine r_lmul C eX11_distance_23 ?_
  refine r_lload C eX11_distance_24 0 rfl ?_
  refine r_lload C eX11_distance_26 0 rfl ?_
  refine r_lmul C eX11_distance_28 ?_
  refine r_ladd C eX11_distance_29 ?_
  obtain ⟨r4, hr4, hf⟩ := zbind hf
  refine r_S_l (ws' := W_Mo (z_g x) a0 o0 (gMo_ints v0) (gMo_told v0) (gMo_postX v0) (gMo_postStrong v0) (gMo_atRow v0) (gMo_heights v0) (gMo_ship v0) (gMo_lines v0) (gMo_text v0) (gMo_said v0) (gMo_readTold v0) (gMo_readX v0) (gMo_readStrong v0) (gMo_readRow v0) (gMo_parting v0) (gMo_wasShip v0) (gMo_wasLines v0) (gMo_worst v0) (gMo_logRow v0) (gMo_images v0) (gMo_isKept v0)) C (c_Mo_root (z_l x) (z_g x)  ((z2 * z2) + (z3 * z3)) r4 hr4) eX11_distance_30 MX11_224 [] rfl rfl rfl rfl [0, 1, 2, 3, 4, 5, 6, 7, 8, 9, 10, 11, 12, 13, 14, 15, 16, 17, 18, 19] rfl ⟨rfl, rfl, rfl, rfl, rfl, rfl, rfl, rfl, rfl, rfl, rfl, rfl, rfl, rfl, rfl, rfl, rfl, rfl, rfl, rfl, trivial⟩ 20 rfl rfl rfl rfl rfl rfl ?_
  obtain rfl := Option.some.inj (show some (r4 : Int64) = some _ from hf)
  exact hret _ _ _ eX11_distance_33
theorem eX11_pull_0 : zd 1 cX11_pull 0 1 (.aload_n 0) := ⟨by decide +kernel, rfl⟩
theorem eX11_pull_1 : zd 1 cX11_pull 1 2 (.aload_n 0) := ⟨by decide +kernel, rfl⟩
theorem eX11_pull_2 : zd 3 cX11_pull 2 5 (.getfield 29) := ⟨by decide +kernel, rfl⟩
theorem eX11_pull_5 : zd 1 cX11_pull 5 6 (.iconst 4) := ⟨by decide +kernel, rfl⟩
theorem eX11_pull_6 : zd 1 cX11_pull 6 7 (.iload_n 1) := ⟨by decide +kernel, rfl⟩
theorem eX11_pull_7 : zd 1 cX11_pull 7 8 (.imul) := ⟨by decide +kernel, rfl⟩
theorem eX11_pull_8 : zd 1 cX11_pull 8 9 (.iconst 1) := ⟨by decide +kernel, rfl⟩
theorem eX11_pull_9 : zd 1 cX11_pull 9 10 (.iadd) := ⟨by decide +kernel, rfl⟩
theorem eX11_pull_10 : zd 1 cX11_pull 10 11 (.iaload) := ⟨by decide +kernel, rfl⟩
theorem eX11_pull_11 : zd 1 cX11_pull 11 12 (.aload_n 0) := ⟨by decide +kernel, rfl⟩
theorem eX11_pull_12 : zd 3 cX11_pull 12 15 (.getfield 29) := ⟨by decide +kernel, rfl⟩
theorem eX11_pull_15 : zd 1 cX11_pull 15 16 (.iconst 4) := ⟨by decide +kernel, rfl⟩
theorem eX11_pull_16 : zd 1 cX11_pull 16 17 (.iload_n 1) := ⟨by decide +kernel, rfl⟩
theorem eX11_pull_17 : zd 1 cX11_pull 17 18 (.imul) := ⟨by decide +kernel, rfl⟩
theorem eX11_pull_18 : zd 1 cX11_pull 18 19 (.iconst 2) := ⟨by decide +kernel, rfl⟩
theorem eX11_pull_19 : zd 1 cX11_pull 19 20 (.iadd) := ⟨by decide +kernel, rfl⟩
theorem eX11_pull_20 : zd 1 cX11_pull 20 21 (.iaload) := ⟨by decide +kernel, rfl⟩
theorem eX11_pull_21 : zd 3 cX11_pull 21 24 (.invokevirtual 230) := ⟨by decide +kernel, rfl⟩
theorem eX11_pull_24 : zd 1 cX11_pull 24 25 (.aload_n 0) := ⟨by decide +kernel, rfl⟩
theorem eX11_pull_25 : zd 3 cX11_pull 25 28 (.getfield 29) := ⟨by decide +kernel, rfl⟩
theorem eX11_pull_28 : zd 1 cX11_pull 28 29 (.iconst 4) := ⟨by decide +kernel, rfl⟩
theorem eX11_pull_29 : zd 1 cX11_pull 29 30 (.iload_n 1) := ⟨by decide +kernel, rfl⟩
theorem eX11_pull_30 : zd 1 cX11_pull 30 31 (.imul) := ⟨by decide +kernel, rfl⟩
theorem eX11_pull_31 : zd 1 cX11_pull 31 32 (.iconst 3) := ⟨by decide +kernel, rfl⟩
theorem eX11_pull_32 : zd 1 cX11_pull 32 33 (.iadd) := ⟨by decide +kernel, rfl⟩
theorem eX11_pull_33 : zd 1 cX11_pull 33 34 (.iaload) := ⟨by decide +kernel, rfl⟩
theorem eX11_pull_34 : zd 1 cX11_pull 34 35 (.i2l) := ⟨by decide +kernel, rfl⟩
theorem eX11_pull_35 : zd 1 cX11_pull 35 36 (.lsub) := ⟨by decide +kernel, rfl⟩
theorem eX11_pull_36 : zd 1 cX11_pull 36 37 (.aload_n 0) := ⟨by decide +kernel, rfl⟩
theorem eX11_pull_37 : zd 3 cX11_pull 37 40 (.getfield 7) := ⟨by decide +kernel, rfl⟩
theorem eX11_pull_40 : zd 2 cX11_pull 40 42 (.bipush 11) := ⟨by decide +kernel, rfl⟩
theorem eX11_pull_42 : zd 1 cX11_pull 42 43 (.iaload) := ⟨by decide +kernel, rfl⟩
theorem eX11_pull_43 : zd 1 cX11_pull 43 44 (.i2l) := ⟨by decide +kernel, rfl⟩
theorem eX11_pull_44 : zd 1 cX11_pull 44 45 (.lmul) := ⟨by decide +kernel, rfl⟩
theorem eX11_pull_45 : zd 3 cX11_pull 45 48 (.ldc2_w 234) := ⟨by decide +kernel, rfl⟩
theorem eX11_pull_48 : zd 1 cX11_pull 48 49 (.ldiv) := ⟨by decide +kernel, rfl⟩
theorem eX11_pull_49 : zd 1 cX11_pull 49 50 (.lstore_n 2) := ⟨by decide +kernel, rfl⟩
theorem eX11_pull_50 : zd 1 cX11_pull 50 51 (.lload_n 2) := ⟨by decide +kernel, rfl⟩
theorem eX11_pull_51 : zd 1 cX11_pull 51 52 (.lconst 0) := ⟨by decide +kernel, rfl⟩
theorem eX11_pull_52 : zd 1 cX11_pull 52 53 (.lcmp) := ⟨by decide +kernel, rfl⟩
theorem eX11_pull_53 : zdi cX11_pull 53 56 60 (.ifCond .ge) := ⟨7, by decide +kernel, rfl, by decide⟩
theorem eX11_pull_56 : zd 1 cX11_pull 56 57 (.lconst 0) := ⟨by decide +kernel, rfl⟩
theorem eX11_pull_57 : zdi cX11_pull 57 60 61 (.goto) := ⟨4, by decide +kernel, rfl, by decide⟩
theorem eX11_pull_60 : zd 1 cX11_pull 60 61 (.lload_n 2) := ⟨by decide +kernel, rfl⟩
theorem eX11_pull_61 : zd 1 cX11_pull 61 62 (.lreturn) := ⟨by decide +kernel, rfl⟩
theorem MX11_230 : zlV RX11 230 yX11_distance cX11_distance 7 ((Option.some FieldType.long)) 2 := ⟨q1357, q1359, qs49, q12, q1360, by decide, by decide, by decide +kernel⟩
noncomputable def f_Mo_pull (v0 : tMo) (p1 : Int32) : Option (Int64) := (if inb ((4 * p1) + 1) 24 = true then (if inb ((4 * p1) + 2) 24 = true then (Option.bind (f_Mo_distance v0 ((gMo_lines v0) (ix ((4 * p1) + 1))) ((gMo_lines v0) (ix ((4 * p1) + 2)))) (fun (r3 : Int64) => (if inb ((4 * p1) + 3) 24 = true then (zlet (((r3 - ((gMo_lines v0) (ix ((4 * p1) + 3))).toInt64) * ((gMo_told v0) 11).toInt64) / 10) (fun (z5 : Int64) => (if 0 ≤ z5 then (some z5) else (some 0)))) else none))) else none) else none)
abbrev rm_Mo_pull : Room := { frames := 4, cells := 0, slots := 0, locals := 91 }
set_option maxHeartbeats 4000000 in
set_option maxRecDepth 100000 in
theorem c_Mo_pull (l : Launch) (g : zGl) (a0 : Nat → Nat) (o0 : Nat) (v0 : tMo) (p1 : Int32) (out : Int64) (hf : f_Mo_pull v0 p1 = some out) : zMl l yX11_pull cX11_pull 4 rm_Mo_pull g [.ref (a0 o0), .int p1] (W_Mo g a0 o0 (gMo_ints v0) (gMo_told v0) (gMo_postX v0) (gMo_postStrong v0) (gMo_atRow v0) (gMo_heights v0) (gMo_ship v0) (gMo_lines v0) (gMo_text v0) (gMo_said v0) (gMo_readTold v0) (gMo_readX v0) (gMo_readStrong v0) (gMo_readRow v0) (gMo_parting v0) (gMo_wasShip v0) (gMo_wasLines v0) (gMo_worst v0) (gMo_logRow v0) (gMo_images v0) (gMo_isKept v0)) out (W_Mo g a0 o0 (gMo_ints v0) (gMo_told v0) (gMo_postX v0) (gMo_postStrong v0) (gMo_atRow v0) (gMo_heights v0) (gMo_ship v0) (gMo_lines v0) (gMo_text v0) (gMo_said v0) (gMo_readTold v0) (gMo_readX v0) (gMo_readStrong v0) (gMo_readRow v0) (gMo_parting v0) (gMo_wasShip v0) (gMo_wasLines v0) (gMo_worst v0) (gMo_logRow v0) (gMo_images v0) (gMo_isKept v0)) := by
  refine zMl_of (lv := [(0, .ref (a0 o0)), (1, .int p1)]) (by decide) (Nat.le_of_ble_eq_true rfl) rfl (fun x hl hg C hret => ?_)
  subst hl; subst hg
  rw [f_Mo_pull] at hf
  refine r_aload_n C eX11_pull_0 0 rfl rfl ?_
  refine r_aload_n C eX11_pull_1 0 rfl rfl ?_
  refine r_get (v := .ref (a0 (o0 + 7))) C eX11_pull_2 FX11_29 0 rfl rfl ?_
  refine r_iconst C (v := 4) eX11_pull_5 (by decide) ?_
  refine r_iload_n C eX11_pull_6 1 rfl rfl ?_
  refine r_imul C eX11_pull_7 ?_
  refine r_iconst C (v := 1) eX11_pull_8 (by decide) ?_
  refine r_iadd C eX11_pull_9 ?_
  obtain ⟨hb1, hf⟩ := zchk hf
  refine r_iald C eX11_pull_10 7 rfl (inb_in hb1) ((gMo_lines v0) (ix ((4 * p1) + 1))) rfl ?_
  refine r_aload_n C eX11_pull_11 0 rfl rfl ?_
  refine r_get (v := .ref (a0 (o0 + 7))) C eX11_pull_12 FX11_29 0 rfl rfl ?_
  refine r_iconst C (v := 4) eX11_pull_15 (by decide) ?_
  refine r_iload_n C eX11_pull_16 1 rfl rfl ?_
  refine r_imul C eX11_pull_17 ?_
  refine r_iconst C (v := 2) eX11_pull_18 (by decide) ?_
  refine r_iadd C eX11_pull_19 ?_
  obtain ⟨hb2, hf⟩ := zchk hf
  refine r_iald C eX11_pull_20 7 rfl (inb_in hb2) ((gMo_lines v0) (ix ((4 * p1) + 2))) rfl ?_
  obtain ⟨r3, hr3, hf⟩ := zbind hf
  refine r_V_l (ws' := W_Mo (z_g x) a0 o0 (gMo_ints v0) (gMo_told v0) (gMo_postX v0) (gMo_postStrong v0) (gMo_atRow v0) (gMo_heights v0) (gMo_ship v0) (gMo_lines v0) (gMo_text v0) (gMo_said v0) (gMo_readTold v0) (gMo_readX v0) (gMo_readStrong v0) (gMo_readRow v0) (gMo_parting v0) (gMo_wasShip v0) (gMo_wasLines v0) (gMo_worst v0) (gMo_logRow v0) (gMo_images v0) (gMo_isKept v0)) C (c_Mo_distance (z_l x) (z_g x) a0 o0 v0 ((gMo_lines v0) (ix ((4 * p1) + 1))) ((gMo_lines v0) (ix ((4 * p1) + 2))) r3 hr3) eX11_pull_21 MX11_230 ⟨0, 11, _, _, rfl, rfl, rfl⟩ [0, 1, 2, 3, 4, 5, 6, 7, 8, 9, 10, 11, 12, 13, 14, 15, 16, 17, 18, 19] rfl rfl rfl rfl [] rfl trivial 20 rfl rfl rfl rfl rfl rfl ?_
  refine r_aload_n C eX11_pull_24 0 rfl rfl ?_
  refine r_get (v := .ref (a0 (o0 + 7))) C eX11_pull_25 FX11_29 0 rfl rfl ?_
  refine r_iconst C (v := 4) eX11_pull_28 (by decide) ?_
  refine r_iload_n C eX11_pull_29 1 rfl rfl ?_
  refine r_imul C eX11_pull_30 ?_
  refine r_iconst C (v := 3) eX11_pull_31 (by decide) ?_
  refine r_iadd C eX11_pull_32 ?_
  obtain ⟨hb4, hf⟩ := zchk hf
  refine r_iald C eX11_pull_33 7 rfl (inb_in hb4) ((gMo_lines v0) (ix ((4 * p1) + 3))) rfl ?_
  refine r_i2l C eX11_pull_34 ?_
  refine r_lsub C eX11_pull_35 ?_
  refine r_aload_n C eX11_pull_36 0 rfl rfl ?_
  refine r_get (v := .ref (a0 (o0 + 1))) C eX11_pull_37 FX11_7 0 rfl rfl ?_
  refine r_bipush C (v := 11) eX11_pull_40 (by decide) ?_
  refine r_ialdN C eX11_pull_42 1 11 (by decide) rfl ((gMo_told v0) 11) rfl ?_
  refine r_i2l C eX11_pull_43 ?_
  refine r_lmul C eX11_pull_44 ?_
  refine r_ldc2 C (v := 10) eX11_pull_45 q1366 ?_
  refine r_ldiv C eX11_pull_48 (by decide) ?_
  obtain ⟨z5, hz5, hf⟩ := zlet_of hf
  refine r_naml hz5 ?_
  refine r_lstore_n C [(2, .long z5), (0, .ref (a0 o0)), (1, .int p1)] eX11_pull_49 rfl (by decide) rfl ?_
  refine r_lload_n C eX11_pull_50 0 rfl rfl ?_
  refine r_lconst C (v := 0) eX11_pull_51 (by decide) ?_
  refine r_lcmp_ge C eX11_pull_52 eX11_pull_53 (fun c6 => ?_) (fun c6 => ?_)
  · rw [if_pos c6] at hf
    refine r_lload_n C eX11_pull_60 0 rfl rfl ?_
    obtain rfl := Option.some.inj (show some (z5 : Int64) = some _ from hf)
    exact hret _ _ _ eX11_pull_61
  · rw [if_neg c6] at hf
    refine r_lconst C (v := 0) eX11_pull_56 (by decide) ?_
    refine r_goto C eX11_pull_57 ?_
    obtain rfl := Option.some.inj (show some (0 : Int64) = some _ from hf)
    exact hret _ _ _ eX11_pull_61
theorem eX11_partLines_0 : zd 1 cX11_partLines 0 1 (.iconst 0) := ⟨by decide +kernel, rfl⟩
theorem eX11_partLines_1 : zd 1 cX11_partLines 1 2 (.istore_n 1) := ⟨by decide +kernel, rfl⟩
theorem eX11_partLines_2 : zd 1 cX11_partLines 2 3 (.iconst 0) := ⟨by decide +kernel, rfl⟩
theorem eX11_partLines_3 : zd 1 cX11_partLines 3 4 (.istore_n 2) := ⟨by decide +kernel, rfl⟩
theorem eX11_partLines_4 : zd 1 cX11_partLines 4 5 (.iload_n 2) := ⟨by decide +kernel, rfl⟩
theorem eX11_partLines_5 : zd 2 cX11_partLines 5 7 (.bipush 6) := ⟨by decide +kernel, rfl⟩
theorem eX11_partLines_7 : zdi cX11_partLines 7 10 69 (.if_icmp .ge) := ⟨62, by decide +kernel, rfl, by decide⟩
theorem eX11_partLines_10 : zd 1 cX11_partLines 10 11 (.aload_n 0) := ⟨by decide +kernel, rfl⟩
theorem eX11_partLines_11 : zd 3 cX11_partLines 11 14 (.getfield 51) := ⟨by decide +kernel, rfl⟩
theorem eX11_partLines_14 : zd 1 cX11_partLines 14 15 (.iload_n 2) := ⟨by decide +kernel, rfl⟩
theorem eX11_partLines_15 : zd 1 cX11_partLines 15 16 (.aload_n 0) := ⟨by decide +kernel, rfl⟩
theorem eX11_partLines_16 : zd 1 cX11_partLines 16 17 (.iload_n 2) := ⟨by decide +kernel, rfl⟩
theorem eX11_partLines_17 : zd 3 cX11_partLines 17 20 (.invokevirtual 243) := ⟨by decide +kernel, rfl⟩
theorem eX11_partLines_20 : zdi cX11_partLines 20 23 52 (.ifCond .eq) := ⟨32, by decide +kernel, rfl, by decide⟩
theorem eX11_partLines_23 : zd 1 cX11_partLines 23 24 (.aload_n 0) := ⟨by decide +kernel, rfl⟩
theorem eX11_partLines_24 : zd 1 cX11_partLines 24 25 (.iload_n 2) := ⟨by decide +kernel, rfl⟩
theorem eX11_partLines_25 : zd 3 cX11_partLines 25 28 (.invokevirtual 246) := ⟨by decide +kernel, rfl⟩
theorem eX11_partLines_28 : zd 1 cX11_partLines 28 29 (.aload_n 0) := ⟨by decide +kernel, rfl⟩
theorem eX11_partLines_29 : zd 3 cX11_partLines 29 32 (.getfield 16) := ⟨by decide +kernel, rfl⟩
theorem eX11_partLines_32 : zd 1 cX11_partLines 32 33 (.aload_n 0) := ⟨by decide +kernel, rfl⟩
theorem eX11_partLines_33 : zd 3 cX11_partLines 33 36 (.getfield 29) := ⟨by decide +kernel, rfl⟩
theorem eX11_partLines_36 : zd 1 cX11_partLines 36 37 (.iconst 4) := ⟨by decide +kernel, rfl⟩
theorem eX11_partLines_37 : zd 1 cX11_partLines 37 38 (.iload_n 2) := ⟨by decide +kernel, rfl⟩
theorem eX11_partLines_38 : zd 1 cX11_partLines 38 39 (.imul) := ⟨by decide +kernel, rfl⟩
theorem eX11_partLines_39 : zd 1 cX11_partLines 39 40 (.iconst 2) := ⟨by decide +kernel, rfl⟩
theorem eX11_partLines_40 : zd 1 cX11_partLines 40 41 (.iadd) := ⟨by decide +kernel, rfl⟩
theorem eX11_partLines_41 : zd 1 cX11_partLines 41 42 (.iaload) := ⟨by decide +kernel, rfl⟩
theorem eX11_partLines_42 : zd 1 cX11_partLines 42 43 (.iaload) := ⟨by decide +kernel, rfl⟩
theorem eX11_partLines_43 : zd 1 cX11_partLines 43 44 (.i2l) := ⟨by decide +kernel, rfl⟩
theorem eX11_partLines_44 : zd 1 cX11_partLines 44 45 (.lcmp) := ⟨by decide +kernel, rfl⟩
theorem eX11_partLines_45 : zdi cX11_partLines 45 48 52 (.ifCond .le) := ⟨7, by decide +kernel, rfl, by decide⟩
theorem eX11_partLines_48 : zd 1 cX11_partLines 48 49 (.iconst 1) := ⟨by decide +kernel, rfl⟩
theorem eX11_partLines_49 : zdi cX11_partLines 49 52 53 (.goto) := ⟨4, by decide +kernel, rfl, by decide⟩
theorem eX11_partLines_52 : zd 1 cX11_partLines 52 53 (.iconst 0) := ⟨by decide +kernel, rfl⟩
theorem eX11_partLines_53 : zd 1 cX11_partLines 53 54 (.iastore) := ⟨by decide +kernel, rfl⟩
theorem eX11_partLines_54 : zd 1 cX11_partLines 54 55 (.iload_n 1) := ⟨by decide +kernel, rfl⟩
theorem eX11_partLines_55 : zd 1 cX11_partLines 55 56 (.aload_n 0) := ⟨by decide +kernel, rfl⟩
theorem eX11_partLines_56 : zd 3 cX11_partLines 56 59 (.getfield 51) := ⟨by decide +kernel, rfl⟩
theorem eX11_partLines_59 : zd 1 cX11_partLines 59 60 (.iload_n 2) := ⟨by decide +kernel, rfl⟩
theorem eX11_partLines_60 : zd 1 cX11_partLines 60 61 (.iaload) := ⟨by decide +kernel, rfl⟩
theorem eX11_partLines_61 : zd 1 cX11_partLines 61 62 (.iadd) := ⟨by decide +kernel, rfl⟩
theorem eX11_partLines_62 : zd 1 cX11_partLines 62 63 (.istore_n 1) := ⟨by decide +kernel, rfl⟩
theorem eX11_partLines_63 : zd 3 cX11_partLines 63 66 (.iinc 2 1) := ⟨by decide +kernel, rfl⟩
theorem eX11_partLines_66 : zdi cX11_partLines 66 69 4 (.goto) := ⟨(-62), by decide +kernel, rfl, by decide⟩
theorem eX11_partLines_69 : zd 1 cX11_partLines 69 70 (.iconst 0) := ⟨by decide +kernel, rfl⟩
theorem eX11_partLines_70 : zd 1 cX11_partLines 70 71 (.istore_n 2) := ⟨by decide +kernel, rfl⟩
theorem eX11_partLines_71 : zd 1 cX11_partLines 71 72 (.iload_n 2) := ⟨by decide +kernel, rfl⟩
theorem eX11_partLines_72 : zd 2 cX11_partLines 72 74 (.bipush 6) := ⟨by decide +kernel, rfl⟩
theorem eX11_partLines_74 : zdi cX11_partLines 74 77 113 (.if_icmp .ge) := ⟨39, by decide +kernel, rfl, by decide⟩
theorem eX11_partLines_77 : zd 1 cX11_partLines 77 78 (.aload_n 0) := ⟨by decide +kernel, rfl⟩
theorem eX11_partLines_78 : zd 3 cX11_partLines 78 81 (.getfield 29) := ⟨by decide +kernel, rfl⟩
theorem eX11_partLines_81 : zd 1 cX11_partLines 81 82 (.iconst 4) := ⟨by decide +kernel, rfl⟩
theorem eX11_partLines_82 : zd 1 cX11_partLines 82 83 (.iload_n 2) := ⟨by decide +kernel, rfl⟩
theorem eX11_partLines_83 : zd 1 cX11_partLines 83 84 (.imul) := ⟨by decide +kernel, rfl⟩
theorem eX11_partLines_84 : zd 1 cX11_partLines 84 85 (.aload_n 0) := ⟨by decide +kernel, rfl⟩
theorem eX11_partLines_85 : zd 3 cX11_partLines 85 88 (.getfield 51) := ⟨by decide +kernel, rfl⟩
theorem eX11_partLines_88 : zd 1 cX11_partLines 88 89 (.iload_n 2) := ⟨by decide +kernel, rfl⟩
theorem eX11_partLines_89 : zd 1 cX11_partLines 89 90 (.iaload) := ⟨by decide +kernel, rfl⟩
theorem eX11_partLines_90 : zd 1 cX11_partLines 90 91 (.iconst 1) := ⟨by decide +kernel, rfl⟩
theorem eX11_partLines_91 : zdi cX11_partLines 91 94 98 (.if_icmp .ne) := ⟨7, by decide +kernel, rfl, by decide⟩
theorem eX11_partLines_94 : zd 1 cX11_partLines 94 95 (.iconst 0) := ⟨by decide +kernel, rfl⟩
theorem eX11_partLines_95 : zdi cX11_partLines 95 98 106 (.goto) := ⟨11, by decide +kernel, rfl, by decide⟩
theorem eX11_partLines_98 : zd 1 cX11_partLines 98 99 (.aload_n 0) := ⟨by decide +kernel, rfl⟩
theorem eX11_partLines_99 : zd 3 cX11_partLines 99 102 (.getfield 29) := ⟨by decide +kernel, rfl⟩
theorem eX11_partLines_102 : zd 1 cX11_partLines 102 103 (.iconst 4) := ⟨by decide +kernel, rfl⟩
theorem eX11_partLines_103 : zd 1 cX11_partLines 103 104 (.iload_n 2) := ⟨by decide +kernel, rfl⟩
theorem eX11_partLines_104 : zd 1 cX11_partLines 104 105 (.imul) := ⟨by decide +kernel, rfl⟩
theorem eX11_partLines_105 : zd 1 cX11_partLines 105 106 (.iaload) := ⟨by decide +kernel, rfl⟩
theorem eX11_partLines_106 : zd 1 cX11_partLines 106 107 (.iastore) := ⟨by decide +kernel, rfl⟩
theorem eX11_partLines_107 : zd 3 cX11_partLines 107 110 (.iinc 2 1) := ⟨by decide +kernel, rfl⟩
theorem eX11_partLines_110 : zdi cX11_partLines 110 113 71 (.goto) := ⟨(-39), by decide +kernel, rfl, by decide⟩
theorem eX11_partLines_113 : zd 1 cX11_partLines 113 114 (.iload_n 1) := ⟨by decide +kernel, rfl⟩
theorem eX11_partLines_114 : zd 1 cX11_partLines 114 115 (.ireturn) := ⟨by decide +kernel, rfl⟩
theorem FX11_16 : zlF RX11 16 11 3 := ⟨(RX11, TX11, 34), rfl, by decide, q1074, zin11⟩
theorem FX11_51 : zlF RX11 51 11 25 := ⟨(RX11, TX11, 34), rfl, by decide, q1096, zin11⟩
theorem MX11_243 : zlV RX11 243 yX11_isFast cX11_isFast 2 ((Option.some FieldType.boolean)) 1 := ⟨q1348, q1350, qs47, q12, q1351, by decide, by decide, by decide +kernel⟩
theorem MX11_246 : zlV RX11 246 yX11_pull cX11_pull 4 ((Option.some FieldType.long)) 1 := ⟨q1353, q1355, qs48, q12, q1356, by decide, by decide, by decide +kernel⟩
noncomputable def fB_Mo_partLines_4 (v0 : tMo) (ih : (Int32 × Int32 × (Nat → Int32)) → Option (Int32 × Int32 × (Nat → Int32))) (s1 : Int32 × Int32 × (Nat → Int32)) : Option (Int32 × Int32 × (Nat → Int32)) := (if 6 ≤ (s1.2.1) then (some ((s1.1), (s1.2.1), (s1.2.2))) else (Option.bind (f_Mo_isFast ((gMo_ints v0), (gMo_told v0), (gMo_postX v0), (gMo_postStrong v0), (gMo_atRow v0), (gMo_heights v0), (gMo_ship v0), (gMo_lines v0), (gMo_text v0), (gMo_said v0), (gMo_readTold v0), (gMo_readX v0), (gMo_readStrong v0), (gMo_readRow v0), (s1.2.2), (gMo_wasShip v0), (gMo_wasLines v0), (gMo_worst v0), (gMo_logRow v0), (gMo_images v0), (gMo_isKept v0)) (s1.2.1)) (fun (r7 : Int32) => (Option.bind (if r7 = 0 then (some 0) else (Option.bind (f_Mo_pull ((gMo_ints v0), (gMo_told v0), (gMo_postX v0), (gMo_postStrong v0), (gMo_atRow v0), (gMo_heights v0), (gMo_ship v0), (gMo_lines v0), (gMo_text v0), (gMo_said v0), (gMo_readTold v0), (gMo_readX v0), (gMo_readStrong v0), (gMo_readRow v0), (s1.2.2), (gMo_wasShip v0), (gMo_wasLines v0), (gMo_worst v0), (gMo_logRow v0), (gMo_images v0), (gMo_isKept v0)) (s1.2.1)) (fun (r12 : Int64) => (if inb ((4 * (s1.2.1)) + 2) 24 = true then (if inb ((gMo_lines v0) (ix ((4 * (s1.2.1)) + 2))) 12 = true then (if r12 ≤ ((gMo_postStrong v0) (ix ((gMo_lines v0) (ix ((4 * (s1.2.1)) + 2))))).toInt64 then (some 0) else (some 1)) else none) else none)))) (fun (w9 : Int32) => (if inb (s1.2.1) 6 = true then (if inb (s1.2.1) 6 = true then (zlet ((s1.1) + ((upd (s1.2.2) (ix (s1.2.1)) w9) (ix (s1.2.1)))) (fun (z18 : Int32) => (ih (z18, ((s1.2.1) + 1), (upd (s1.2.2) (ix (s1.2.1)) w9))))) else none) else none))))))
noncomputable def fB_Mo_partLines_71 (q2 : Int32 × Int32 × (Nat → Int32)) (ih : (Int32 × (Nat → Int32)) → Option (Int32 × (Nat → Int32))) (s19 : Int32 × (Nat → Int32)) : Option (Int32 × (Nat → Int32)) := (if 6 ≤ (s19.1) then (some ((s19.1), (s19.2))) else (if inb (s19.1) 6 = true then (Option.bind (if ((q2.2.2) (ix (s19.1))) = 1 then (some 0) else (if inb (4 * (s19.1)) 24 = true then (some ((s19.2) (ix (4 * (s19.1))))) else none)) (fun (w26 : Int32) => (if inb (4 * (s19.1)) 24 = true then (ih (((s19.1) + 1), (upd (s19.2) (ix (4 * (s19.1))) w26))) else none))) else none))
noncomputable def f_Mo_partLines (v0 : tMo)  : Option (Int32 × (Nat → Int32) × (Nat → Int32)) := (Option.bind (lp (fB_Mo_partLines_4 v0) LF (0, 0, (gMo_parting v0))) (fun (q2 : Int32 × Int32 × (Nat → Int32)) => (Option.bind (lp (fB_Mo_partLines_71 q2) LF (0, (gMo_lines v0))) (fun (q20 : Int32 × (Nat → Int32)) => (some ((q2.1), (q20.2), (q2.2.2)))))))
abbrev rm_Mo_partLines : Room := { frames := 5, cells := 0, slots := 0, locals := 114 }
set_option maxHeartbeats 4000000 in
set_option maxRecDepth 100000 in
theorem c_Mo_partLines (l : Launch) (g : zGl) (a0 : Nat → Nat) (o0 : Nat) (v0 : tMo)  (out : Int32 × (Nat → Int32) × (Nat → Int32)) (hf : f_Mo_partLines v0 = some out) : zMi l yX11_partLines cX11_partLines 3 rm_Mo_partLines g [.ref (a0 o0)] (W_Mo g a0 o0 (gMo_ints v0) (gMo_told v0) (gMo_postX v0) (gMo_postStrong v0) (gMo_atRow v0) (gMo_heights v0) (gMo_ship v0) (gMo_lines v0) (gMo_text v0) (gMo_said v0) (gMo_readTold v0) (gMo_readX v0) (gMo_readStrong v0) (gMo_readRow v0) (gMo_parting v0) (gMo_wasShip v0) (gMo_wasLines v0) (gMo_worst v0) (gMo_logRow v0) (gMo_images v0) (gMo_isKept v0)) (out.1) (W_Mo g a0 o0 (gMo_ints v0) (gMo_told v0) (gMo_postX v0) (gMo_postStrong v0) (gMo_atRow v0) (gMo_heights v0) (gMo_ship v0) (out.2.1) (gMo_text v0) (gMo_said v0) (gMo_readTold v0) (gMo_readX v0) (gMo_readStrong v0) (gMo_readRow v0) (out.2.2) (gMo_wasShip v0) (gMo_wasLines v0) (gMo_worst v0) (gMo_logRow v0) (gMo_images v0) (gMo_isKept v0)) := by
  refine zMi_of (lv := [(0, .ref (a0 o0))]) (by decide) (Nat.le_of_ble_eq_true rfl) rfl (fun x hl hg C hret => ?_)
  subst hl; subst hg
  rw [f_Mo_partLines] at hf
  refine r_iconst C (v := 0) eX11_partLines_0 (by decide) ?_
  refine r_istore_n C [(1, .int 0), (0, .ref (a0 o0))] eX11_partLines_1 rfl (by decide) rfl ?_
  refine r_iconst C (v := 0) eX11_partLines_2 (by decide) ?_
  refine r_istore_n C [(2, .int 0), (1, .int 0), (0, .ref (a0 o0))] eX11_partLines_3 rfl (by decide) rfl ?_
  obtain ⟨q2, h3, hf⟩ := zbind hf
  have J4 : vV x 3 0 0 (W_Mo (z_g x) a0 o0 (gMo_ints v0) (gMo_told v0) (gMo_postX v0) (gMo_postStrong v0) (gMo_atRow v0) (gMo_heights v0) (gMo_ship v0) (gMo_lines v0) (gMo_text v0) (gMo_said v0) (gMo_readTold v0) (gMo_readX v0) (gMo_readStrong v0) (gMo_readRow v0) (q2.2.2) (gMo_wasShip v0) (gMo_wasLines v0) (gMo_worst v0) (gMo_logRow v0) (gMo_images v0) (gMo_isKept v0)) 69 [(0, .ref (a0 o0)), (1, .int (q2.1))] [] := by
    refine r_iconst C (v := 0) eX11_partLines_69 (by decide) ?_
    refine r_istore_n C [(2, .int 0), (0, .ref (a0 o0)), (1, .int (q2.1))] eX11_partLines_70 rfl (by decide) rfl ?_
    obtain ⟨q20, h21, hf⟩ := zbind hf
    have J22 : vV x 3 0 0 (W_Mo (z_g x) a0 o0 (gMo_ints v0) (gMo_told v0) (gMo_postX v0) (gMo_postStrong v0) (gMo_atRow v0) (gMo_heights v0) (gMo_ship v0) (q20.2) (gMo_text v0) (gMo_said v0) (gMo_readTold v0) (gMo_readX v0) (gMo_readStrong v0) (gMo_readRow v0) (q2.2.2) (gMo_wasShip v0) (gMo_wasLines v0) (gMo_worst v0) (gMo_logRow v0) (gMo_images v0) (gMo_isKept v0)) 113 [(1, .int (q2.1))] [] := by
      refine r_iload_n C eX11_partLines_113 0 rfl rfl ?_
      obtain rfl := Option.some.inj (show some (((q2.1), (q20.2), (q2.2.2)) : Int32 × (Nat → Int32) × (Nat → Int32)) = some _ from hf)
      exact hret _ _ _ eX11_partLines_114
    have L23 : ∀ (nL23 : Nat) (s19 : Int32 × (Nat → Int32)), lp (fB_Mo_partLines_71 q2) nL23 s19 = some q20 → vV x 3 0 0 (W_Mo (z_g x) a0 o0 (gMo_ints v0) (gMo_told v0) (gMo_postX v0) (gMo_postStrong v0) (gMo_atRow v0) (gMo_heights v0) (gMo_ship v0) (s19.2) (gMo_text v0) (gMo_said v0) (gMo_readTold v0) (gMo_readX v0) (gMo_readStrong v0) (gMo_readRow v0) (q2.2.2) (gMo_wasShip v0) (gMo_wasLines v0) (gMo_worst v0) (gMo_logRow v0) (gMo_images v0) (gMo_isKept v0)) 71 [(0, .ref (a0 o0)), (1, .int (q2.1)), (2, .int (s19.1))] [] := by
      intro nL23
      induction nL23 with
      | zero => intro s19 hq; cases hq
      | succ nL23 ihL23 =>
        intro s19 hbL23
        rw [lp_succ, fB_Mo_partLines_71] at hbL23
        refine r_iload_n C eX11_partLines_71 2 rfl rfl ?_
        refine r_bipush C (v := 6) eX11_partLines_72 (by decide) ?_
        refine r_icmp_ge C eX11_partLines_74 (fun c24 => ?_) (fun c24 => ?_)
        · rw [if_pos c24] at hbL23
          obtain rfl := Option.some.inj hbL23
          refine r_sub (lv' := [(1, .int (q2.1))]) [1] rfl ?_
          exact J22
        · rw [if_neg c24] at hbL23
          refine r_aload_n C eX11_partLines_77 0 rfl rfl ?_
          refine r_get (v := .ref (a0 (o0 + 7))) C eX11_partLines_78 FX11_29 0 rfl rfl ?_
          refine r_iconst C (v := 4) eX11_partLines_81 (by decide) ?_
          refine r_iload_n C eX11_partLines_82 2 rfl rfl ?_
          refine r_imul C eX11_partLines_83 ?_
          refine r_aload_n C eX11_partLines_84 0 rfl rfl ?_
          refine r_get (v := .ref (a0 (o0 + 13))) C eX11_partLines_85 FX11_51 0 rfl rfl ?_
          refine r_iload_n C eX11_partLines_88 2 rfl rfl ?_
          obtain ⟨hb25, hbL23⟩ := zchk hbL23
          refine r_iald C eX11_partLines_89 13 rfl (inb_in hb25) ((q2.2.2) (ix (s19.1))) rfl ?_
          refine r_iconst C (v := 1) eX11_partLines_90 (by decide) ?_
          obtain ⟨w26, hw26, hbL23⟩ := zbind hbL23
          have J27 : vV x 3 0 0 (W_Mo (z_g x) a0 o0 (gMo_ints v0) (gMo_told v0) (gMo_postX v0) (gMo_postStrong v0) (gMo_atRow v0) (gMo_heights v0) (gMo_ship v0) (s19.2) (gMo_text v0) (gMo_said v0) (gMo_readTold v0) (gMo_readX v0) (gMo_readStrong v0) (gMo_readRow v0) (q2.2.2) (gMo_wasShip v0) (gMo_wasLines v0) (gMo_worst v0) (gMo_logRow v0) (gMo_images v0) (gMo_isKept v0)) 106 [(0, .ref (a0 o0)), (1, .int (q2.1)), (2, .int (s19.1))] [.int w26, .int (4 * (s19.1)), .ref (a0 (o0 + 7))] := by
            obtain ⟨hb30, hbL23⟩ := zchk hbL23
            refine r_iast (ws' := W_Mo (z_g x) a0 o0 (gMo_ints v0) (gMo_told v0) (gMo_postX v0) (gMo_postStrong v0) (gMo_atRow v0) (gMo_heights v0) (gMo_ship v0) (upd (s19.2) (ix (4 * (s19.1))) w26) (gMo_text v0) (gMo_said v0) (gMo_readTold v0) (gMo_readX v0) (gMo_readStrong v0) (gMo_readRow v0) (q2.2.2) (gMo_wasShip v0) (gMo_wasLines v0) (gMo_worst v0) (gMo_logRow v0) (gMo_images v0) (gMo_isKept v0)) C eX11_partLines_106 7 rfl (inb_in hb30) rfl ?_
            refine r_iinc C (v := ((s19.1) + 1)) [(2, .int ((s19.1) + 1)), (0, .ref (a0 o0)), (1, .int (q2.1))] eX11_partLines_107 2 rfl rfl (by decide) rfl ?_
            refine r_goto C eX11_partLines_110 ?_
            refine r_sub (lv' := [(0, .ref (a0 o0)), (1, .int (q2.1)), (2, .int ((s19.1) + 1))]) [1, 2, 0] rfl ?_
            have hc := ihL23 (((s19.1) + 1), (upd (s19.2) (ix (4 * (s19.1))) w26)) hbL23
            exact hc
          refine r_icmp_ne C eX11_partLines_91 (fun c28 => ?_) (fun c28 => ?_)
          · rw [if_neg c28] at hw26
            refine r_aload_n C eX11_partLines_98 0 rfl rfl ?_
            refine r_get (v := .ref (a0 (o0 + 7))) C eX11_partLines_99 FX11_29 0 rfl rfl ?_
            refine r_iconst C (v := 4) eX11_partLines_102 (by decide) ?_
            refine r_iload_n C eX11_partLines_103 2 rfl rfl ?_
            refine r_imul C eX11_partLines_104 ?_
            obtain ⟨hb29, hw26⟩ := zchk hw26
            refine r_iald C eX11_partLines_105 7 rfl (inb_in hb29) ((s19.2) (ix (4 * (s19.1)))) rfl ?_
            obtain rfl := Option.some.inj hw26
            exact J27 
          · rw [if_pos c28] at hw26
            refine r_iconst C (v := 0) eX11_partLines_94 (by decide) ?_
            refine r_goto C eX11_partLines_95 ?_
            obtain rfl := Option.some.inj hw26
            exact J27 
    refine r_sub (lv' := [(0, .ref (a0 o0)), (1, .int (q2.1)), (2, .int 0)]) [1, 2, 0] rfl ?_
    have hc := L23 LF (0, (gMo_lines v0)) h21
    exact hc
  have L5 : ∀ (nL5 : Nat) (s1 : Int32 × Int32 × (Nat → Int32)), lp (fB_Mo_partLines_4 v0) nL5 s1 = some q2 → vV x 3 0 0 (W_Mo (z_g x) a0 o0 (gMo_ints v0) (gMo_told v0) (gMo_postX v0) (gMo_postStrong v0) (gMo_atRow v0) (gMo_heights v0) (gMo_ship v0) (gMo_lines v0) (gMo_text v0) (gMo_said v0) (gMo_readTold v0) (gMo_readX v0) (gMo_readStrong v0) (gMo_readRow v0) (s1.2.2) (gMo_wasShip v0) (gMo_wasLines v0) (gMo_worst v0) (gMo_logRow v0) (gMo_images v0) (gMo_isKept v0)) 4 [(0, .ref (a0 o0)), (1, .int (s1.1)), (2, .int (s1.2.1))] [] := by
    intro nL5
    induction nL5 with
    | zero => intro s1 hq; cases hq
    | succ nL5 ihL5 =>
      intro s1 hbL5
      rw [lp_succ, fB_Mo_partLines_4] at hbL5
      refine r_iload_n C eX11_partLines_4 2 rfl rfl ?_
      refine r_bipush C (v := 6) eX11_partLines_5 (by decide) ?_
      refine r_icmp_ge C eX11_partLines_7 (fun c6 => ?_) (fun c6 => ?_)
      · rw [if_pos c6] at hbL5
        obtain rfl := Option.some.inj hbL5
        refine r_sub (lv' := [(0, .ref (a0 o0)), (1, .int (s1.1))]) [0, 1] rfl ?_
        exact J4
      · rw [if_neg c6] at hbL5
        refine r_aload_n C eX11_partLines_10 0 rfl rfl ?_
        refine r_get (v := .ref (a0 (o0 + 13))) C eX11_partLines_11 FX11_51 0 rfl rfl ?_
        refine r_iload_n C eX11_partLines_14 2 rfl rfl ?_
        refine r_aload_n C eX11_partLines_15 0 rfl rfl ?_
        refine r_iload_n C eX11_partLines_16 2 rfl rfl ?_
        obtain ⟨r7, hr7, hbL5⟩ := zbind hbL5
        refine r_V_z (ws' := W_Mo (z_g x) a0 o0 (gMo_ints v0) (gMo_told v0) (gMo_postX v0) (gMo_postStrong v0) (gMo_atRow v0) (gMo_heights v0) (gMo_ship v0) (gMo_lines v0) (gMo_text v0) (gMo_said v0) (gMo_readTold v0) (gMo_readX v0) (gMo_readStrong v0) (gMo_readRow v0) (s1.2.2) (gMo_wasShip v0) (gMo_wasLines v0) (gMo_worst v0) (gMo_logRow v0) (gMo_images v0) (gMo_isKept v0)) C (c_Mo_isFast (z_l x) (z_g x) a0 o0 ((gMo_ints v0), (gMo_told v0), (gMo_postX v0), (gMo_postStrong v0), (gMo_atRow v0), (gMo_heights v0), (gMo_ship v0), (gMo_lines v0), (gMo_text v0), (gMo_said v0), (gMo_readTold v0), (gMo_readX v0), (gMo_readStrong v0), (gMo_readRow v0), (s1.2.2), (gMo_wasShip v0), (gMo_wasLines v0), (gMo_worst v0), (gMo_logRow v0), (gMo_images v0), (gMo_isKept v0)) (s1.2.1) r7 hr7) eX11_partLines_17 MX11_243 ⟨0, 11, _, _, rfl, rfl, rfl⟩ [0, 1, 2, 3, 4, 5, 6, 7, 8, 9, 10, 11, 12, 13, 14, 15, 16, 17, 18, 19] rfl rfl rfl rfl [] rfl trivial 20 rfl rfl rfl rfl rfl rfl (fun zb8 => ?_)
        obtain ⟨w9, hw9, hbL5⟩ := zbind hbL5
        have J10 : vV x 3 0 0 (W_Mo (z_g x) a0 o0 (gMo_ints v0) (gMo_told v0) (gMo_postX v0) (gMo_postStrong v0) (gMo_atRow v0) (gMo_heights v0) (gMo_ship v0) (gMo_lines v0) (gMo_text v0) (gMo_said v0) (gMo_readTold v0) (gMo_readX v0) (gMo_readStrong v0) (gMo_readRow v0) (s1.2.2) (gMo_wasShip v0) (gMo_wasLines v0) (gMo_worst v0) (gMo_logRow v0) (gMo_images v0) (gMo_isKept v0)) 53 [(0, .ref (a0 o0)), (1, .int (s1.1)), (2, .int (s1.2.1))] [.int w9, .int (s1.2.1), .ref (a0 (o0 + 13))] := by
          obtain ⟨hb16, hbL5⟩ := zchk hbL5
          refine r_iast (ws' := W_Mo (z_g x) a0 o0 (gMo_ints v0) (gMo_told v0) (gMo_postX v0) (gMo_postStrong v0) (gMo_atRow v0) (gMo_heights v0) (gMo_ship v0) (gMo_lines v0) (gMo_text v0) (gMo_said v0) (gMo_readTold v0) (gMo_readX v0) (gMo_readStrong v0) (gMo_readRow v0) (upd (s1.2.2) (ix (s1.2.1)) w9) (gMo_wasShip v0) (gMo_wasLines v0) (gMo_worst v0) (gMo_logRow v0) (gMo_images v0) (gMo_isKept v0)) C eX11_partLines_53 13 rfl (inb_in hb16) rfl ?_
          refine r_iload_n C eX11_partLines_54 1 rfl rfl ?_
          refine r_aload_n C eX11_partLines_55 0 rfl rfl ?_
          refine r_get (v := .ref (a0 (o0 + 13))) C eX11_partLines_56 FX11_51 0 rfl rfl ?_
          refine r_iload_n C eX11_partLines_59 2 rfl rfl ?_
          obtain ⟨hb17, hbL5⟩ := zchk hbL5
          refine r_iald C eX11_partLines_60 13 rfl (inb_in hb17) ((upd (s1.2.2) (ix (s1.2.1)) w9) (ix (s1.2.1))) rfl ?_
          refine r_iadd C eX11_partLines_61 ?_
          obtain ⟨z18, hz18, hbL5⟩ := zlet_of hbL5
          refine r_nami hz18 ?_
          refine r_istore_n C [(1, .int z18), (0, .ref (a0 o0)), (2, .int (s1.2.1))] eX11_partLines_62 rfl (by decide) rfl ?_
          refine r_iinc C (v := ((s1.2.1) + 1)) [(2, .int ((s1.2.1) + 1)), (1, .int z18), (0, .ref (a0 o0))] eX11_partLines_63 2 rfl rfl (by decide) rfl ?_
          refine r_goto C eX11_partLines_66 ?_
          refine r_sub (lv' := [(0, .ref (a0 o0)), (1, .int z18), (2, .int ((s1.2.1) + 1))]) [2, 1, 0] rfl ?_
          have hc := ihL5 (z18, ((s1.2.1) + 1), (upd (s1.2.2) (ix (s1.2.1)) w9)) hbL5
          exact hc
        refine r_if_eq C eX11_partLines_20 (fun c11 => ?_) (fun c11 => ?_)
        · rw [if_pos c11] at hw9
          refine r_iconst C (v := 0) eX11_partLines_52 (by decide) ?_
          obtain rfl := Option.some.inj hw9
          exact J10 
        · rw [if_neg c11] at hw9
          refine r_aload_n C eX11_partLines_23 0 rfl rfl ?_
          refine r_iload_n C eX11_partLines_24 2 rfl rfl ?_
          obtain ⟨r12, hr12, hw9⟩ := zbind hw9
          refine r_V_l (ws' := W_Mo (z_g x) a0 o0 (gMo_ints v0) (gMo_told v0) (gMo_postX v0) (gMo_postStrong v0) (gMo_atRow v0) (gMo_heights v0) (gMo_ship v0) (gMo_lines v0) (gMo_text v0) (gMo_said v0) (gMo_readTold v0) (gMo_readX v0) (gMo_readStrong v0) (gMo_readRow v0) (s1.2.2) (gMo_wasShip v0) (gMo_wasLines v0) (gMo_worst v0) (gMo_logRow v0) (gMo_images v0) (gMo_isKept v0)) C (c_Mo_pull (z_l x) (z_g x) a0 o0 ((gMo_ints v0), (gMo_told v0), (gMo_postX v0), (gMo_postStrong v0), (gMo_atRow v0), (gMo_heights v0), (gMo_ship v0), (gMo_lines v0), (gMo_text v0), (gMo_said v0), (gMo_readTold v0), (gMo_readX v0), (gMo_readStrong v0), (gMo_readRow v0), (s1.2.2), (gMo_wasShip v0), (gMo_wasLines v0), (gMo_worst v0), (gMo_logRow v0), (gMo_images v0), (gMo_isKept v0)) (s1.2.1) r12 hr12) eX11_partLines_25 MX11_246 ⟨0, 11, _, _, rfl, rfl, rfl⟩ [0, 1, 2, 3, 4, 5, 6, 7, 8, 9, 10, 11, 12, 13, 14, 15, 16, 17, 18, 19] rfl rfl rfl rfl [] rfl trivial 20 rfl rfl rfl rfl rfl rfl ?_
          refine r_aload_n C eX11_partLines_28 0 rfl rfl ?_
          refine r_get (v := .ref (a0 (o0 + 3))) C eX11_partLines_29 FX11_16 0 rfl rfl ?_
          refine r_aload_n C eX11_partLines_32 0 rfl rfl ?_
          refine r_get (v := .ref (a0 (o0 + 7))) C eX11_partLines_33 FX11_29 0 rfl rfl ?_
          refine r_iconst C (v := 4) eX11_partLines_36 (by decide) ?_
          refine r_iload_n C eX11_partLines_37 2 rfl rfl ?_
          refine r_imul C eX11_partLines_38 ?_
          refine r_iconst C (v := 2) eX11_partLines_39 (by decide) ?_
          refine r_iadd C eX11_partLines_40 ?_
          obtain ⟨hb13, hw9⟩ := zchk hw9
          refine r_iald C eX11_partLines_41 7 rfl (inb_in hb13) ((gMo_lines v0) (ix ((4 * (s1.2.1)) + 2))) rfl ?_
          obtain ⟨hb14, hw9⟩ := zchk hw9
          refine r_iald C eX11_partLines_42 3 rfl (inb_in hb14) ((gMo_postStrong v0) (ix ((gMo_lines v0) (ix ((4 * (s1.2.1)) + 2))))) rfl ?_
          refine r_i2l C eX11_partLines_43 ?_
          refine r_lcmp_le C eX11_partLines_44 eX11_partLines_45 (fun c15 => ?_) (fun c15 => ?_)
          · rw [if_pos c15] at hw9
            refine r_iconst C (v := 0) eX11_partLines_52 (by decide) ?_
            obtain rfl := Option.some.inj hw9
            exact J10 
          · rw [if_neg c15] at hw9
            refine r_iconst C (v := 1) eX11_partLines_48 (by decide) ?_
            refine r_goto C eX11_partLines_49 ?_
            obtain rfl := Option.some.inj hw9
            exact J10 
  refine r_sub (lv' := [(0, .ref (a0 o0)), (1, .int 0), (2, .int 0)]) [2, 1, 0] rfl ?_
  have hc := L5 LF (0, 0, (gMo_parting v0)) h3
  exact hc
theorem eX11_held_0 : zd 1 cX11_held 0 1 (.lload_n 0) := ⟨by decide +kernel, rfl⟩
theorem eX11_held_1 : zd 1 cX11_held 1 2 (.lload_n 2) := ⟨by decide +kernel, rfl⟩
theorem eX11_held_2 : zd 1 cX11_held 2 3 (.lcmp) := ⟨by decide +kernel, rfl⟩
theorem eX11_held_3 : zdi cX11_held 3 6 10 (.ifCond .le) := ⟨7, by decide +kernel, rfl, by decide⟩
theorem eX11_held_6 : zd 1 cX11_held 6 7 (.lload_n 2) := ⟨by decide +kernel, rfl⟩
theorem eX11_held_7 : zdi cX11_held 7 10 23 (.goto) := ⟨16, by decide +kernel, rfl, by decide⟩
theorem eX11_held_10 : zd 1 cX11_held 10 11 (.lload_n 0) := ⟨by decide +kernel, rfl⟩
theorem eX11_held_11 : zd 1 cX11_held 11 12 (.lload_n 2) := ⟨by decide +kernel, rfl⟩
theorem eX11_held_12 : zd 1 cX11_held 12 13 (.lneg) := ⟨by decide +kernel, rfl⟩
theorem eX11_held_13 : zd 1 cX11_held 13 14 (.lcmp) := ⟨by decide +kernel, rfl⟩
theorem eX11_held_14 : zdi cX11_held 14 17 22 (.ifCond .ge) := ⟨8, by decide +kernel, rfl, by decide⟩
theorem eX11_held_17 : zd 1 cX11_held 17 18 (.lload_n 2) := ⟨by decide +kernel, rfl⟩
theorem eX11_held_18 : zd 1 cX11_held 18 19 (.lneg) := ⟨by decide +kernel, rfl⟩
theorem eX11_held_19 : zdi cX11_held 19 22 23 (.goto) := ⟨4, by decide +kernel, rfl, by decide⟩
theorem eX11_held_22 : zd 1 cX11_held 22 23 (.lload_n 0) := ⟨by decide +kernel, rfl⟩
theorem eX11_held_23 : zd 1 cX11_held 23 24 (.lreturn) := ⟨by decide +kernel, rfl⟩
noncomputable def f_Mo_held  (p1 : Int64) (p2 : Int64) : Int64 := (if p1 ≤ p2 then (if (-p2) ≤ p1 then p1 else (-p2)) else p2)
abbrev rm_Mo_held : Room := { frames := 0, cells := 0, slots := 0, locals := 0 }
set_option maxHeartbeats 4000000 in
set_option maxRecDepth 100000 in
theorem c_Mo_held (l : Launch) (g : zGl)  (p1 : Int64) (p2 : Int64) (out : Int64) (hf : f_Mo_held p1 p2 = out) : zMl l yX11_held cX11_held 4 rm_Mo_held g [.long p1, .long p2] ([]) out ([]) := by
  refine zMl_of (lv := [(0, .long p1), (2, .long p2)]) (by decide) (Nat.le_of_ble_eq_true rfl) rfl (fun x hl hg C hret => ?_)
  subst hl; subst hg
  rw [f_Mo_held] at hf
  refine r_lload_n C eX11_held_0 0 rfl rfl ?_
  refine r_lload_n C eX11_held_1 1 rfl rfl ?_
  refine r_lcmp_le C eX11_held_2 eX11_held_3 (fun c1 => ?_) (fun c1 => ?_)
  · rw [if_pos c1] at hf
    refine r_lload_n C eX11_held_10 0 rfl rfl ?_
    refine r_lload_n C eX11_held_11 1 rfl rfl ?_
    refine r_lneg C eX11_held_12 ?_
    refine r_lcmp_ge C eX11_held_13 eX11_held_14 (fun c2 => ?_) (fun c2 => ?_)
    · rw [if_pos c2] at hf
      refine r_lload_n C eX11_held_22 0 rfl rfl ?_
      subst hf
      exact hret _ _ _ eX11_held_23
    · rw [if_neg c2] at hf
      refine r_lload_n C eX11_held_17 1 rfl rfl ?_
      refine r_lneg C eX11_held_18 ?_
      refine r_goto C eX11_held_19 ?_
      subst hf
      exact hret _ _ _ eX11_held_23
  · rw [if_neg c1] at hf
    refine r_lload_n C eX11_held_6 1 rfl rfl ?_
    refine r_goto C eX11_held_7 ?_
    subst hf
    exact hret _ _ _ eX11_held_23
theorem eX11_push_0 : zd 1 cX11_push 0 1 (.aload_n 0) := ⟨by decide +kernel, rfl⟩
theorem eX11_push_1 : zd 3 cX11_push 1 4 (.getfield 7) := ⟨by decide +kernel, rfl⟩
theorem eX11_push_4 : zd 1 cX11_push 4 5 (.iconst 3) := ⟨by decide +kernel, rfl⟩
theorem eX11_push_5 : zd 1 cX11_push 5 6 (.iaload) := ⟨by decide +kernel, rfl⟩
theorem eX11_push_6 : zd 1 cX11_push 6 7 (.i2l) := ⟨by decide +kernel, rfl⟩
theorem eX11_push_7 : zd 1 cX11_push 7 8 (.lstore_n 1) := ⟨by decide +kernel, rfl⟩
theorem eX11_push_8 : zd 1 cX11_push 8 9 (.aload_n 0) := ⟨by decide +kernel, rfl⟩
theorem eX11_push_9 : zd 3 cX11_push 9 12 (.getfield 25) := ⟨by decide +kernel, rfl⟩
theorem eX11_push_12 : zd 2 cX11_push 12 14 (.bipush 6) := ⟨by decide +kernel, rfl⟩
theorem eX11_push_14 : zd 1 cX11_push 14 15 (.laload) := ⟨by decide +kernel, rfl⟩
theorem eX11_push_15 : zd 1 cX11_push 15 16 (.aload_n 0) := ⟨by decide +kernel, rfl⟩
theorem eX11_push_16 : zd 3 cX11_push 16 19 (.getfield 7) := ⟨by decide +kernel, rfl⟩
theorem eX11_push_19 : zd 1 cX11_push 19 20 (.iconst 4) := ⟨by decide +kernel, rfl⟩
theorem eX11_push_20 : zd 1 cX11_push 20 21 (.iaload) := ⟨by decide +kernel, rfl⟩
theorem eX11_push_21 : zd 1 cX11_push 21 22 (.i2l) := ⟨by decide +kernel, rfl⟩
theorem eX11_push_22 : zd 1 cX11_push 22 23 (.lmul) := ⟨by decide +kernel, rfl⟩
theorem eX11_push_23 : zd 1 cX11_push 23 24 (.aload_n 0) := ⟨by decide +kernel, rfl⟩
theorem eX11_push_24 : zd 3 cX11_push 24 27 (.getfield 25) := ⟨by decide +kernel, rfl⟩
theorem eX11_push_27 : zd 1 cX11_push 27 28 (.iconst 3) := ⟨by decide +kernel, rfl⟩
theorem eX11_push_28 : zd 1 cX11_push 28 29 (.laload) := ⟨by decide +kernel, rfl⟩
theorem eX11_push_29 : zd 1 cX11_push 29 30 (.aload_n 0) := ⟨by decide +kernel, rfl⟩
theorem eX11_push_30 : zd 3 cX11_push 30 33 (.getfield 7) := ⟨by decide +kernel, rfl⟩
theorem eX11_push_33 : zd 2 cX11_push 33 35 (.bipush 7) := ⟨by decide +kernel, rfl⟩
theorem eX11_push_35 : zd 1 cX11_push 35 36 (.iaload) := ⟨by decide +kernel, rfl⟩
theorem eX11_push_36 : zd 1 cX11_push 36 37 (.i2l) := ⟨by decide +kernel, rfl⟩
theorem eX11_push_37 : zd 1 cX11_push 37 38 (.lmul) := ⟨by decide +kernel, rfl⟩
theorem eX11_push_38 : zd 3 cX11_push 38 41 (.ldc2_w 203) := ⟨by decide +kernel, rfl⟩
theorem eX11_push_41 : zd 1 cX11_push 41 42 (.ldiv) := ⟨by decide +kernel, rfl⟩
theorem eX11_push_42 : zd 1 cX11_push 42 43 (.lsub) := ⟨by decide +kernel, rfl⟩
theorem eX11_push_43 : zd 1 cX11_push 43 44 (.lstore_n 3) := ⟨by decide +kernel, rfl⟩
theorem eX11_push_44 : zd 1 cX11_push 44 45 (.aload_n 0) := ⟨by decide +kernel, rfl⟩
theorem eX11_push_45 : zd 3 cX11_push 45 48 (.getfield 25) := ⟨by decide +kernel, rfl⟩
theorem eX11_push_48 : zd 2 cX11_push 48 50 (.bipush 8) := ⟨by decide +kernel, rfl⟩
theorem eX11_push_50 : zd 1 cX11_push 50 51 (.laload) := ⟨by decide +kernel, rfl⟩
theorem eX11_push_51 : zd 3 cX11_push 51 54 (.ldc2_w 234) := ⟨by decide +kernel, rfl⟩
theorem eX11_push_54 : zd 1 cX11_push 54 55 (.lmul) := ⟨by decide +kernel, rfl⟩
theorem eX11_push_55 : zd 1 cX11_push 55 56 (.lload_n 1) := ⟨by decide +kernel, rfl⟩
theorem eX11_push_56 : zd 1 cX11_push 56 57 (.ldiv) := ⟨by decide +kernel, rfl⟩
theorem eX11_push_57 : zd 1 cX11_push 57 58 (.aload_n 0) := ⟨by decide +kernel, rfl⟩
theorem eX11_push_58 : zd 3 cX11_push 58 61 (.getfield 7) := ⟨by decide +kernel, rfl⟩
theorem eX11_push_61 : zd 2 cX11_push 61 63 (.bipush 10) := ⟨by decide +kernel, rfl⟩
theorem eX11_push_63 : zd 1 cX11_push 63 64 (.iaload) := ⟨by decide +kernel, rfl⟩
theorem eX11_push_64 : zd 1 cX11_push 64 65 (.i2l) := ⟨by decide +kernel, rfl⟩
theorem eX11_push_65 : zd 1 cX11_push 65 66 (.lsub) := ⟨by decide +kernel, rfl⟩
theorem eX11_push_66 : zd 1 cX11_push 66 67 (.aload_n 0) := ⟨by decide +kernel, rfl⟩
theorem eX11_push_67 : zd 3 cX11_push 67 70 (.getfield 25) := ⟨by decide +kernel, rfl⟩
theorem eX11_push_70 : zd 1 cX11_push 70 71 (.iconst 4) := ⟨by decide +kernel, rfl⟩
theorem eX11_push_71 : zd 1 cX11_push 71 72 (.laload) := ⟨by decide +kernel, rfl⟩
theorem eX11_push_72 : zd 1 cX11_push 72 73 (.aload_n 0) := ⟨by decide +kernel, rfl⟩
theorem eX11_push_73 : zd 3 cX11_push 73 76 (.getfield 7) := ⟨by decide +kernel, rfl⟩
theorem eX11_push_76 : zd 2 cX11_push 76 78 (.bipush 8) := ⟨by decide +kernel, rfl⟩
theorem eX11_push_78 : zd 1 cX11_push 78 79 (.iaload) := ⟨by decide +kernel, rfl⟩
theorem eX11_push_79 : zd 1 cX11_push 79 80 (.i2l) := ⟨by decide +kernel, rfl⟩
theorem eX11_push_80 : zd 1 cX11_push 80 81 (.lmul) := ⟨by decide +kernel, rfl⟩
theorem eX11_push_81 : zd 3 cX11_push 81 84 (.ldc2_w 203) := ⟨by decide +kernel, rfl⟩
theorem eX11_push_84 : zd 1 cX11_push 84 85 (.ldiv) := ⟨by decide +kernel, rfl⟩
theorem eX11_push_85 : zd 1 cX11_push 85 86 (.lsub) := ⟨by decide +kernel, rfl⟩
theorem eX11_push_86 : zd 2 cX11_push 86 88 (.lstore 5) := ⟨by decide +kernel, rfl⟩
theorem eX11_push_88 : zd 1 cX11_push 88 89 (.aload_n 0) := ⟨by decide +kernel, rfl⟩
theorem eX11_push_89 : zd 3 cX11_push 89 92 (.getfield 25) := ⟨by decide +kernel, rfl⟩
theorem eX11_push_92 : zd 2 cX11_push 92 94 (.bipush 7) := ⟨by decide +kernel, rfl⟩
theorem eX11_push_94 : zd 1 cX11_push 94 95 (.laload) := ⟨by decide +kernel, rfl⟩
theorem eX11_push_95 : zd 1 cX11_push 95 96 (.aload_n 0) := ⟨by decide +kernel, rfl⟩
theorem eX11_push_96 : zd 3 cX11_push 96 99 (.getfield 25) := ⟨by decide +kernel, rfl⟩
theorem eX11_push_99 : zd 1 cX11_push 99 100 (.iconst 3) := ⟨by decide +kernel, rfl⟩
theorem eX11_push_100 : zd 1 cX11_push 100 101 (.laload) := ⟨by decide +kernel, rfl⟩
theorem eX11_push_101 : zd 1 cX11_push 101 102 (.lmul) := ⟨by decide +kernel, rfl⟩
theorem eX11_push_102 : zd 3 cX11_push 102 105 (.ldc2_w 203) := ⟨by decide +kernel, rfl⟩
theorem eX11_push_105 : zd 1 cX11_push 105 106 (.ldiv) := ⟨by decide +kernel, rfl⟩
theorem eX11_push_106 : zd 1 cX11_push 106 107 (.aload_n 0) := ⟨by decide +kernel, rfl⟩
theorem eX11_push_107 : zd 3 cX11_push 107 110 (.getfield 7) := ⟨by decide +kernel, rfl⟩
theorem eX11_push_110 : zd 2 cX11_push 110 112 (.bipush 6) := ⟨by decide +kernel, rfl⟩
theorem eX11_push_112 : zd 1 cX11_push 112 113 (.iaload) := ⟨by decide +kernel, rfl⟩
theorem eX11_push_113 : zd 1 cX11_push 113 114 (.i2l) := ⟨by decide +kernel, rfl⟩
theorem eX11_push_114 : zd 1 cX11_push 114 115 (.lmul) := ⟨by decide +kernel, rfl⟩
theorem eX11_push_115 : zd 1 cX11_push 115 116 (.lload_n 1) := ⟨by decide +kernel, rfl⟩
theorem eX11_push_116 : zd 1 cX11_push 116 117 (.ldiv) := ⟨by decide +kernel, rfl⟩
theorem eX11_push_117 : zd 1 cX11_push 117 118 (.aload_n 0) := ⟨by decide +kernel, rfl⟩
theorem eX11_push_118 : zd 3 cX11_push 118 121 (.getfield 25) := ⟨by decide +kernel, rfl⟩
theorem eX11_push_121 : zd 1 cX11_push 121 122 (.iconst 5) := ⟨by decide +kernel, rfl⟩
theorem eX11_push_122 : zd 1 cX11_push 122 123 (.laload) := ⟨by decide +kernel, rfl⟩
theorem eX11_push_123 : zd 1 cX11_push 123 124 (.aload_n 0) := ⟨by decide +kernel, rfl⟩
theorem eX11_push_124 : zd 3 cX11_push 124 127 (.getfield 7) := ⟨by decide +kernel, rfl⟩
theorem eX11_push_127 : zd 2 cX11_push 127 129 (.bipush 9) := ⟨by decide +kernel, rfl⟩
theorem eX11_push_129 : zd 1 cX11_push 129 130 (.iaload) := ⟨by decide +kernel, rfl⟩
theorem eX11_push_130 : zd 1 cX11_push 130 131 (.i2l) := ⟨by decide +kernel, rfl⟩
theorem eX11_push_131 : zd 1 cX11_push 131 132 (.lmul) := ⟨by decide +kernel, rfl⟩
theorem eX11_push_132 : zd 3 cX11_push 132 135 (.ldc2_w 203) := ⟨by decide +kernel, rfl⟩
theorem eX11_push_135 : zd 1 cX11_push 135 136 (.ldiv) := ⟨by decide +kernel, rfl⟩
theorem eX11_push_136 : zd 1 cX11_push 136 137 (.lsub) := ⟨by decide +kernel, rfl⟩
theorem eX11_push_137 : zd 2 cX11_push 137 139 (.lstore 7) := ⟨by decide +kernel, rfl⟩
theorem eX11_push_139 : zd 2 cX11_push 139 141 (.lload 7) := ⟨by decide +kernel, rfl⟩
theorem eX11_push_141 : zd 1 cX11_push 141 142 (.aload_n 0) := ⟨by decide +kernel, rfl⟩
theorem eX11_push_142 : zd 3 cX11_push 142 145 (.getfield 25) := ⟨by decide +kernel, rfl⟩
theorem eX11_push_145 : zd 2 cX11_push 145 147 (.bipush 6) := ⟨by decide +kernel, rfl⟩
theorem eX11_push_147 : zd 1 cX11_push 147 148 (.laload) := ⟨by decide +kernel, rfl⟩
theorem eX11_push_148 : zd 1 cX11_push 148 149 (.lconst 0) := ⟨by decide +kernel, rfl⟩
theorem eX11_push_149 : zd 1 cX11_push 149 150 (.lcmp) := ⟨by decide +kernel, rfl⟩
theorem eX11_push_150 : zdi cX11_push 150 153 173 (.ifCond .ge) := ⟨23, by decide +kernel, rfl, by decide⟩
theorem eX11_push_153 : zd 1 cX11_push 153 154 (.aload_n 0) := ⟨by decide +kernel, rfl⟩
theorem eX11_push_154 : zd 3 cX11_push 154 157 (.getfield 25) := ⟨by decide +kernel, rfl⟩
theorem eX11_push_157 : zd 2 cX11_push 157 159 (.bipush 6) := ⟨by decide +kernel, rfl⟩
theorem eX11_push_159 : zd 1 cX11_push 159 160 (.laload) := ⟨by decide +kernel, rfl⟩
theorem eX11_push_160 : zd 1 cX11_push 160 161 (.aload_n 0) := ⟨by decide +kernel, rfl⟩
theorem eX11_push_161 : zd 3 cX11_push 161 164 (.getfield 7) := ⟨by decide +kernel, rfl⟩
theorem eX11_push_164 : zd 1 cX11_push 164 165 (.iconst 5) := ⟨by decide +kernel, rfl⟩
theorem eX11_push_165 : zd 1 cX11_push 165 166 (.iaload) := ⟨by decide +kernel, rfl⟩
theorem eX11_push_166 : zd 1 cX11_push 166 167 (.i2l) := ⟨by decide +kernel, rfl⟩
theorem eX11_push_167 : zd 1 cX11_push 167 168 (.lmul) := ⟨by decide +kernel, rfl⟩
theorem eX11_push_168 : zd 1 cX11_push 168 169 (.lload_n 1) := ⟨by decide +kernel, rfl⟩
theorem eX11_push_169 : zd 1 cX11_push 169 170 (.ldiv) := ⟨by decide +kernel, rfl⟩
theorem eX11_push_170 : zdi cX11_push 170 173 174 (.goto) := ⟨4, by decide +kernel, rfl, by decide⟩
theorem eX11_push_173 : zd 1 cX11_push 173 174 (.lconst 0) := ⟨by decide +kernel, rfl⟩
theorem eX11_push_174 : zd 1 cX11_push 174 175 (.ladd) := ⟨by decide +kernel, rfl⟩
theorem eX11_push_175 : zd 2 cX11_push 175 177 (.lstore 7) := ⟨by decide +kernel, rfl⟩
theorem eX11_push_177 : zd 1 cX11_push 177 178 (.iconst 0) := ⟨by decide +kernel, rfl⟩
theorem eX11_push_178 : zd 2 cX11_push 178 180 (.istore 9) := ⟨by decide +kernel, rfl⟩
theorem eX11_push_180 : zd 2 cX11_push 180 182 (.iload 9) := ⟨by decide +kernel, rfl⟩
theorem eX11_push_182 : zd 2 cX11_push 182 184 (.bipush 6) := ⟨by decide +kernel, rfl⟩
theorem eX11_push_184 : zdi cX11_push 184 187 347 (.if_icmp .ge) := ⟨163, by decide +kernel, rfl, by decide⟩
theorem eX11_push_187 : zd 1 cX11_push 187 188 (.aload_n 0) := ⟨by decide +kernel, rfl⟩
theorem eX11_push_188 : zd 2 cX11_push 188 190 (.iload 9) := ⟨by decide +kernel, rfl⟩
theorem eX11_push_190 : zd 3 cX11_push 190 193 (.invokevirtual 243) := ⟨by decide +kernel, rfl⟩
theorem eX11_push_193 : zdi cX11_push 193 196 341 (.ifCond .eq) := ⟨148, by decide +kernel, rfl, by decide⟩
theorem eX11_push_196 : zd 1 cX11_push 196 197 (.aload_n 0) := ⟨by decide +kernel, rfl⟩
theorem eX11_push_197 : zd 3 cX11_push 197 200 (.getfield 29) := ⟨by decide +kernel, rfl⟩
theorem eX11_push_200 : zd 1 cX11_push 200 201 (.iconst 4) := ⟨by decide +kernel, rfl⟩
theorem eX11_push_201 : zd 2 cX11_push 201 203 (.iload 9) := ⟨by decide +kernel, rfl⟩
theorem eX11_push_203 : zd 1 cX11_push 203 204 (.imul) := ⟨by decide +kernel, rfl⟩
theorem eX11_push_204 : zd 1 cX11_push 204 205 (.iconst 1) := ⟨by decide +kernel, rfl⟩
theorem eX11_push_205 : zd 1 cX11_push 205 206 (.iadd) := ⟨by decide +kernel, rfl⟩
theorem eX11_push_206 : zd 1 cX11_push 206 207 (.iaload) := ⟨by decide +kernel, rfl⟩
theorem eX11_push_207 : zd 2 cX11_push 207 209 (.istore 10) := ⟨by decide +kernel, rfl⟩
theorem eX11_push_209 : zd 1 cX11_push 209 210 (.aload_n 0) := ⟨by decide +kernel, rfl⟩
theorem eX11_push_210 : zd 2 cX11_push 210 212 (.iload 10) := ⟨by decide +kernel, rfl⟩
theorem eX11_push_212 : zd 1 cX11_push 212 213 (.aload_n 0) := ⟨by decide +kernel, rfl⟩
theorem eX11_push_213 : zd 3 cX11_push 213 216 (.getfield 29) := ⟨by decide +kernel, rfl⟩
theorem eX11_push_216 : zd 1 cX11_push 216 217 (.iconst 4) := ⟨by decide +kernel, rfl⟩
theorem eX11_push_217 : zd 2 cX11_push 217 219 (.iload 9) := ⟨by decide +kernel, rfl⟩
theorem eX11_push_219 : zd 1 cX11_push 219 220 (.imul) := ⟨by decide +kernel, rfl⟩
theorem eX11_push_220 : zd 1 cX11_push 220 221 (.iconst 2) := ⟨by decide +kernel, rfl⟩
theorem eX11_push_221 : zd 1 cX11_push 221 222 (.iadd) := ⟨by decide +kernel, rfl⟩
theorem eX11_push_222 : zd 1 cX11_push 222 223 (.iaload) := ⟨by decide +kernel, rfl⟩
theorem eX11_push_223 : zd 3 cX11_push 223 226 (.invokevirtual 230) := ⟨by decide +kernel, rfl⟩
theorem eX11_push_226 : zd 2 cX11_push 226 228 (.lstore 11) := ⟨by decide +kernel, rfl⟩
theorem eX11_push_228 : zd 2 cX11_push 228 230 (.lload 11) := ⟨by decide +kernel, rfl⟩
theorem eX11_push_230 : zd 1 cX11_push 230 231 (.lconst 1) := ⟨by decide +kernel, rfl⟩
theorem eX11_push_231 : zd 1 cX11_push 231 232 (.lcmp) := ⟨by decide +kernel, rfl⟩
theorem eX11_push_232 : zdi cX11_push 232 235 239 (.ifCond .ge) := ⟨7, by decide +kernel, rfl, by decide⟩
theorem eX11_push_235 : zd 1 cX11_push 235 236 (.lconst 1) := ⟨by decide +kernel, rfl⟩
theorem eX11_push_236 : zdi cX11_push 236 239 241 (.goto) := ⟨5, by decide +kernel, rfl, by decide⟩
theorem eX11_push_239 : zd 2 cX11_push 239 241 (.lload 11) := ⟨by decide +kernel, rfl⟩
theorem eX11_push_241 : zd 2 cX11_push 241 243 (.lstore 11) := ⟨by decide +kernel, rfl⟩
theorem eX11_push_243 : zd 1 cX11_push 243 244 (.aload_n 0) := ⟨by decide +kernel, rfl⟩
theorem eX11_push_244 : zd 2 cX11_push 244 246 (.iload 9) := ⟨by decide +kernel, rfl⟩
theorem eX11_push_246 : zd 3 cX11_push 246 249 (.invokevirtual 246) := ⟨by decide +kernel, rfl⟩
theorem eX11_push_249 : zd 2 cX11_push 249 251 (.lstore 13) := ⟨by decide +kernel, rfl⟩
theorem eX11_push_251 : zd 1 cX11_push 251 252 (.aload_n 0) := ⟨by decide +kernel, rfl⟩
theorem eX11_push_252 : zd 3 cX11_push 252 255 (.getfield 13) := ⟨by decide +kernel, rfl⟩
theorem eX11_push_255 : zd 1 cX11_push 255 256 (.aload_n 0) := ⟨by decide +kernel, rfl⟩
theorem eX11_push_256 : zd 3 cX11_push 256 259 (.getfield 29) := ⟨by decide +kernel, rfl⟩
theorem eX11_push_259 : zd 1 cX11_push 259 260 (.iconst 4) := ⟨by decide +kernel, rfl⟩
theorem eX11_push_260 : zd 2 cX11_push 260 262 (.iload 9) := ⟨by decide +kernel, rfl⟩
theorem eX11_push_262 : zd 1 cX11_push 262 263 (.imul) := ⟨by decide +kernel, rfl⟩
theorem eX11_push_263 : zd 1 cX11_push 263 264 (.iconst 2) := ⟨by decide +kernel, rfl⟩
theorem eX11_push_264 : zd 1 cX11_push 264 265 (.iadd) := ⟨by decide +kernel, rfl⟩
theorem eX11_push_265 : zd 1 cX11_push 265 266 (.iaload) := ⟨by decide +kernel, rfl⟩
theorem eX11_push_266 : zd 1 cX11_push 266 267 (.iaload) := ⟨by decide +kernel, rfl⟩
theorem eX11_push_267 : zd 1 cX11_push 267 268 (.i2l) := ⟨by decide +kernel, rfl⟩
theorem eX11_push_268 : zd 1 cX11_push 268 269 (.aload_n 0) := ⟨by decide +kernel, rfl⟩
theorem eX11_push_269 : zd 2 cX11_push 269 271 (.iload 10) := ⟨by decide +kernel, rfl⟩
theorem eX11_push_271 : zd 3 cX11_push 271 274 (.invokevirtual 218) := ⟨by decide +kernel, rfl⟩
theorem eX11_push_274 : zd 1 cX11_push 274 275 (.lsub) := ⟨by decide +kernel, rfl⟩
theorem eX11_push_275 : zd 2 cX11_push 275 277 (.lstore 15) := ⟨by decide +kernel, rfl⟩
theorem eX11_push_277 : zd 2 cX11_push 277 279 (.lload 13) := ⟨by decide +kernel, rfl⟩
theorem eX11_push_279 : zd 1 cX11_push 279 280 (.aload_n 0) := ⟨by decide +kernel, rfl⟩
theorem eX11_push_280 : zd 2 cX11_push 280 282 (.iload 10) := ⟨by decide +kernel, rfl⟩
theorem eX11_push_282 : zd 3 cX11_push 282 285 (.invokevirtual 221) := ⟨by decide +kernel, rfl⟩
theorem eX11_push_285 : zd 1 cX11_push 285 286 (.lmul) := ⟨by decide +kernel, rfl⟩
theorem eX11_push_286 : zd 2 cX11_push 286 288 (.lload 11) := ⟨by decide +kernel, rfl⟩
theorem eX11_push_288 : zd 1 cX11_push 288 289 (.ldiv) := ⟨by decide +kernel, rfl⟩
theorem eX11_push_289 : zd 2 cX11_push 289 291 (.lstore 17) := ⟨by decide +kernel, rfl⟩
theorem eX11_push_291 : zd 1 cX11_push 291 292 (.lload_n 3) := ⟨by decide +kernel, rfl⟩
theorem eX11_push_292 : zd 2 cX11_push 292 294 (.lload 13) := ⟨by decide +kernel, rfl⟩
theorem eX11_push_294 : zd 2 cX11_push 294 296 (.lload 15) := ⟨by decide +kernel, rfl⟩
theorem eX11_push_296 : zd 1 cX11_push 296 297 (.lmul) := ⟨by decide +kernel, rfl⟩
theorem eX11_push_297 : zd 2 cX11_push 297 299 (.lload 11) := ⟨by decide +kernel, rfl⟩
theorem eX11_push_299 : zd 1 cX11_push 299 300 (.ldiv) := ⟨by decide +kernel, rfl⟩
theorem eX11_push_300 : zd 3 cX11_push 300 303 (.ldc2_w 234) := ⟨by decide +kernel, rfl⟩
theorem eX11_push_303 : zd 1 cX11_push 303 304 (.lmul) := ⟨by decide +kernel, rfl⟩
theorem eX11_push_304 : zd 1 cX11_push 304 305 (.lload_n 1) := ⟨by decide +kernel, rfl⟩
theorem eX11_push_305 : zd 1 cX11_push 305 306 (.ldiv) := ⟨by decide +kernel, rfl⟩
theorem eX11_push_306 : zd 1 cX11_push 306 307 (.ladd) := ⟨by decide +kernel, rfl⟩
theorem eX11_push_307 : zd 1 cX11_push 307 308 (.lstore_n 3) := ⟨by decide +kernel, rfl⟩
theorem eX11_push_308 : zd 2 cX11_push 308 310 (.lload 5) := ⟨by decide +kernel, rfl⟩
theorem eX11_push_310 : zd 2 cX11_push 310 312 (.lload 17) := ⟨by decide +kernel, rfl⟩
theorem eX11_push_312 : zd 3 cX11_push 312 315 (.ldc2_w 234) := ⟨by decide +kernel, rfl⟩
theorem eX11_push_315 : zd 1 cX11_push 315 316 (.lmul) := ⟨by decide +kernel, rfl⟩
theorem eX11_push_316 : zd 1 cX11_push 316 317 (.lload_n 1) := ⟨by decide +kernel, rfl⟩
theorem eX11_push_317 : zd 1 cX11_push 317 318 (.ldiv) := ⟨by decide +kernel, rfl⟩
theorem eX11_push_318 : zd 1 cX11_push 318 319 (.ladd) := ⟨by decide +kernel, rfl⟩
theorem eX11_push_319 : zd 2 cX11_push 319 321 (.lstore 5) := ⟨by decide +kernel, rfl⟩
theorem eX11_push_321 : zd 2 cX11_push 321 323 (.lload 7) := ⟨by decide +kernel, rfl⟩
theorem eX11_push_323 : zd 2 cX11_push 323 325 (.lload 17) := ⟨by decide +kernel, rfl⟩
theorem eX11_push_325 : zd 1 cX11_push 325 326 (.aload_n 0) := ⟨by decide +kernel, rfl⟩
theorem eX11_push_326 : zd 2 cX11_push 326 328 (.iload 10) := ⟨by decide +kernel, rfl⟩
theorem eX11_push_328 : zd 3 cX11_push 328 331 (.invokevirtual 205) := ⟨by decide +kernel, rfl⟩
theorem eX11_push_331 : zd 1 cX11_push 331 332 (.lmul) := ⟨by decide +kernel, rfl⟩
theorem eX11_push_332 : zd 1 cX11_push 332 333 (.lload_n 1) := ⟨by decide +kernel, rfl⟩
theorem eX11_push_333 : zd 1 cX11_push 333 334 (.ldiv) := ⟨by decide +kernel, rfl⟩
theorem eX11_push_334 : zd 3 cX11_push 334 337 (.ldc2_w 234) := ⟨by decide +kernel, rfl⟩
theorem eX11_push_337 : zd 1 cX11_push 337 338 (.ldiv) := ⟨by decide +kernel, rfl⟩
theorem eX11_push_338 : zd 1 cX11_push 338 339 (.ladd) := ⟨by decide +kernel, rfl⟩
theorem eX11_push_339 : zd 2 cX11_push 339 341 (.lstore 7) := ⟨by decide +kernel, rfl⟩
theorem eX11_push_341 : zd 3 cX11_push 341 344 (.iinc 9 1) := ⟨by decide +kernel, rfl⟩
theorem eX11_push_344 : zdi cX11_push 344 347 180 (.goto) := ⟨(-164), by decide +kernel, rfl, by decide⟩
theorem eX11_push_347 : zd 1 cX11_push 347 348 (.aload_n 0) := ⟨by decide +kernel, rfl⟩
theorem eX11_push_348 : zd 3 cX11_push 348 351 (.getfield 25) := ⟨by decide +kernel, rfl⟩
theorem eX11_push_351 : zd 1 cX11_push 351 352 (.iconst 3) := ⟨by decide +kernel, rfl⟩
theorem eX11_push_352 : zd 1 cX11_push 352 353 (.aload_n 0) := ⟨by decide +kernel, rfl⟩
theorem eX11_push_353 : zd 3 cX11_push 353 356 (.getfield 25) := ⟨by decide +kernel, rfl⟩
theorem eX11_push_356 : zd 1 cX11_push 356 357 (.iconst 3) := ⟨by decide +kernel, rfl⟩
theorem eX11_push_357 : zd 1 cX11_push 357 358 (.laload) := ⟨by decide +kernel, rfl⟩
theorem eX11_push_358 : zd 1 cX11_push 358 359 (.lload_n 3) := ⟨by decide +kernel, rfl⟩
theorem eX11_push_359 : zd 1 cX11_push 359 360 (.ladd) := ⟨by decide +kernel, rfl⟩
theorem eX11_push_360 : zd 3 cX11_push 360 363 (.ldc2_w 249) := ⟨by decide +kernel, rfl⟩
theorem eX11_push_363 : zd 3 cX11_push 363 366 (.invokestatic 251) := ⟨by decide +kernel, rfl⟩
theorem eX11_push_366 : zd 1 cX11_push 366 367 (.lastore) := ⟨by decide +kernel, rfl⟩
theorem eX11_push_367 : zd 1 cX11_push 367 368 (.aload_n 0) := ⟨by decide +kernel, rfl⟩
theorem eX11_push_368 : zd 3 cX11_push 368 371 (.getfield 25) := ⟨by decide +kernel, rfl⟩
theorem eX11_push_371 : zd 1 cX11_push 371 372 (.iconst 4) := ⟨by decide +kernel, rfl⟩
theorem eX11_push_372 : zd 1 cX11_push 372 373 (.aload_n 0) := ⟨by decide +kernel, rfl⟩
theorem eX11_push_373 : zd 3 cX11_push 373 376 (.getfield 25) := ⟨by decide +kernel, rfl⟩
theorem eX11_push_376 : zd 1 cX11_push 376 377 (.iconst 4) := ⟨by decide +kernel, rfl⟩
theorem eX11_push_377 : zd 1 cX11_push 377 378 (.laload) := ⟨by decide +kernel, rfl⟩
theorem eX11_push_378 : zd 2 cX11_push 378 380 (.lload 5) := ⟨by decide +kernel, rfl⟩
theorem eX11_push_380 : zd 1 cX11_push 380 381 (.ladd) := ⟨by decide +kernel, rfl⟩
theorem eX11_push_381 : zd 3 cX11_push 381 384 (.ldc2_w 249) := ⟨by decide +kernel, rfl⟩
theorem eX11_push_384 : zd 3 cX11_push 384 387 (.invokestatic 251) := ⟨by decide +kernel, rfl⟩
theorem eX11_push_387 : zd 1 cX11_push 387 388 (.lastore) := ⟨by decide +kernel, rfl⟩
theorem eX11_push_388 : zd 1 cX11_push 388 389 (.aload_n 0) := ⟨by decide +kernel, rfl⟩
theorem eX11_push_389 : zd 3 cX11_push 389 392 (.getfield 25) := ⟨by decide +kernel, rfl⟩
theorem eX11_push_392 : zd 1 cX11_push 392 393 (.iconst 5) := ⟨by decide +kernel, rfl⟩
theorem eX11_push_393 : zd 1 cX11_push 393 394 (.aload_n 0) := ⟨by decide +kernel, rfl⟩
theorem eX11_push_394 : zd 3 cX11_push 394 397 (.getfield 25) := ⟨by decide +kernel, rfl⟩
theorem eX11_push_397 : zd 1 cX11_push 397 398 (.iconst 5) := ⟨by decide +kernel, rfl⟩
theorem eX11_push_398 : zd 1 cX11_push 398 399 (.laload) := ⟨by decide +kernel, rfl⟩
theorem eX11_push_399 : zd 2 cX11_push 399 401 (.lload 7) := ⟨by decide +kernel, rfl⟩
theorem eX11_push_401 : zd 1 cX11_push 401 402 (.ladd) := ⟨by decide +kernel, rfl⟩
theorem eX11_push_402 : zd 3 cX11_push 402 405 (.ldc2_w 255) := ⟨by decide +kernel, rfl⟩
theorem eX11_push_405 : zd 3 cX11_push 405 408 (.invokestatic 251) := ⟨by decide +kernel, rfl⟩
theorem eX11_push_408 : zd 1 cX11_push 408 409 (.lastore) := ⟨by decide +kernel, rfl⟩
theorem eX11_push_409 : zd 1 cX11_push 409 410 (.return_) := ⟨by decide +kernel, rfl⟩
theorem MX11_251 : zlS RX11 251 yX11_held cX11_held 4 ((Option.some FieldType.long)) 2 := ⟨q1372, q1373, q12, q1374, by decide, by decide, by decide +kernel⟩
noncomputable def fB_Mo_push_180 (v0 : tMo) (z1 : Int64) (ih : (Int64 × Int64 × Int64 × Int32) → Option (Int64 × Int64 × Int64 × Int32)) (s12 : Int64 × Int64 × Int64 × Int32) : Option (Int64 × Int64 × Int64 × Int32) := (if 6 ≤ (s12.2.2.2) then (some ((s12.1), (s12.2.1), (s12.2.2.1), (s12.2.2.2))) else (Option.bind (f_Mo_isFast v0 (s12.2.2.2)) (fun (r18 : Int32) => (if r18 = 0 then (ih ((s12.1), (s12.2.1), (s12.2.2.1), ((s12.2.2.2) + 1))) else (if inb ((4 * (s12.2.2.2)) + 1) 24 = true then (zlet ((gMo_lines v0) (ix ((4 * (s12.2.2.2)) + 1))) (fun (z22 : Int32) => (if inb ((4 * (s12.2.2.2)) + 2) 24 = true then (Option.bind (f_Mo_distance v0 z22 ((gMo_lines v0) (ix ((4 * (s12.2.2.2)) + 2)))) (fun (r24 : Int64) => (zlet (if 1 ≤ r24 then r24 else 1) (fun (w25 : Int64) => (Option.bind (f_Mo_pull v0 (s12.2.2.2)) (fun (r28 : Int64) => (if inb ((4 * (s12.2.2.2)) + 2) 24 = true then (if inb ((gMo_lines v0) (ix ((4 * (s12.2.2.2)) + 2))) 12 = true then (zlet (((gMo_postX v0) (ix ((gMo_lines v0) (ix ((4 * (s12.2.2.2)) + 2))))).toInt64 - (f_Mo_along v0 z22)) (fun (z31 : Int64) => (if w25 = 0 then none else (zlet ((r28 * (f_Mo_offOf v0 z22)) / w25) (fun (z33 : Int64) => (if w25 = 0 then none else (if z1 = 0 then none else (zlet ((s12.1) + ((((r28 * z31) / w25) * 10) / z1)) (fun (z36 : Int64) => (if z1 = 0 then none else (zlet ((s12.2.1) + ((z33 * 10) / z1)) (fun (z38 : Int64) => (if z1 = 0 then none else (zlet ((s12.2.2.1) + (((z33 * (f_Mo_arm v0 z22)) / z1) / 10)) (fun (z40 : Int64) => (ih (z36, z38, z40, ((s12.2.2.2) + 1)))))))))))))))))) else none) else none))))))) else none))) else none)))))
noncomputable def f_Mo_push (v0 : tMo)  : Option ((Nat → Int64)) := (zlet ((gMo_told v0) 3).toInt64 (fun (z1 : Int64) => (zlet ((((gMo_ship v0) 6) * ((gMo_told v0) 4).toInt64) - ((((gMo_ship v0) 3) * ((gMo_told v0) 7).toInt64) / 100)) (fun (z2 : Int64) => (if z1 = 0 then none else (zlet ((((((gMo_ship v0) 8) * 10) / z1) - ((gMo_told v0) 10).toInt64) - ((((gMo_ship v0) 4) * ((gMo_told v0) 8).toInt64) / 100)) (fun (z4 : Int64) => (if z1 = 0 then none else (zlet (((((((gMo_ship v0) 7) * ((gMo_ship v0) 3)) / 100) * ((gMo_told v0) 6).toInt64) / z1) - ((((gMo_ship v0) 5) * ((gMo_told v0) 9).toInt64) / 100)) (fun (z6 : Int64) => (Option.bind (if 0 ≤ ((gMo_ship v0) 6) then (some 0) else (if z1 = 0 then none else (some ((((gMo_ship v0) 6) * ((gMo_told v0) 5).toInt64) / z1)))) (fun (w7 : Int64) => (zlet (z6 + w7) (fun (z11 : Int64) => (Option.bind (lp (fB_Mo_push_180 v0 z1) LF (z2, z4, z11, 0)) (fun (q13 : Int64 × Int64 × Int64 × Int32) => (zlet (f_Mo_held (((gMo_ship v0) 3) + (q13.1)) 50000) (fun (z41 : Int64) => (zlet (f_Mo_held (((gMo_ship v0) 4) + (q13.2.1)) 50000) (fun (z42 : Int64) => (zlet (f_Mo_held (((gMo_ship v0) 5) + (q13.2.2.1)) 20000) (fun (z43 : Int64) => (some (vp_updL (vp_updL (vp_updL (gMo_ship v0) 3 z41) 4 z42) 5 z43))))))))))))))))))))))))
abbrev rm_Mo_push : Room := { frames := 5, cells := 0, slots := 0, locals := 114 }
set_option maxHeartbeats 4000000 in
set_option maxRecDepth 100000 in
theorem c_Mo_push (l : Launch) (g : zGl) (a0 : Nat → Nat) (o0 : Nat) (v0 : tMo)  (out : (Nat → Int64)) (hf : f_Mo_push v0 = some out) : zMv l yX11_push cX11_push 19 rm_Mo_push g [.ref (a0 o0)] (W_Mo g a0 o0 (gMo_ints v0) (gMo_told v0) (gMo_postX v0) (gMo_postStrong v0) (gMo_atRow v0) (gMo_heights v0) (gMo_ship v0) (gMo_lines v0) (gMo_text v0) (gMo_said v0) (gMo_readTold v0) (gMo_readX v0) (gMo_readStrong v0) (gMo_readRow v0) (gMo_parting v0) (gMo_wasShip v0) (gMo_wasLines v0) (gMo_worst v0) (gMo_logRow v0) (gMo_images v0) (gMo_isKept v0))  (W_Mo g a0 o0 (gMo_ints v0) (gMo_told v0) (gMo_postX v0) (gMo_postStrong v0) (gMo_atRow v0) (gMo_heights v0) out (gMo_lines v0) (gMo_text v0) (gMo_said v0) (gMo_readTold v0) (gMo_readX v0) (gMo_readStrong v0) (gMo_readRow v0) (gMo_parting v0) (gMo_wasShip v0) (gMo_wasLines v0) (gMo_worst v0) (gMo_logRow v0) (gMo_images v0) (gMo_isKept v0)) := by
  refine zMv_of (lv := [(0, .ref (a0 o0))]) (by decide) (Nat.le_of_ble_eq_true rfl) rfl (fun x hl hg C hret => ?_)
  subst hl; subst hg
  rw [f_Mo_push] at hf
  refine r_aload_n C eX11_push_0 0 rfl rfl ?_
  refine r_get (v := .ref (a0 (o0 + 1))) C eX11_push_1 FX11_7 0 rfl rfl ?_
  refine r_iconst C (v := 3) eX11_push_4 (by decide) ?_
  refine r_ialdN C eX11_push_5 1 3 (by decide) rfl ((gMo_told v0) 3) rfl ?_
  refine r_i2l C eX11_push_6 ?_
  obtain ⟨z1, hz1, hf⟩ := zlet_of hf
  refine r_naml hz1 ?_
  refine r_lstore_n C [(1, .long z1), (0, .ref (a0 o0))] eX11_push_7 rfl (by decide) rfl ?_
  refine r_aload_n C eX11_push_8 1 rfl rfl ?_
  refine r_get (v := .ref (a0 (o0 + 6))) C eX11_push_9 FX11_25 0 rfl rfl ?_
  refine r_bipush C (v := 6) eX11_push_12 (by decide) ?_
  refine r_laldN C eX11_push_14 6 6 (by decide) rfl ((gMo_ship v0) 6) rfl ?_
  refine r_aload_n C eX11_push_15 1 rfl rfl ?_
  refine r_get (v := .ref (a0 (o0 + 1))) C eX11_push_16 FX11_7 0 rfl rfl ?_
  refine r_iconst C (v := 4) eX11_push_19 (by decide) ?_
  refine r_ialdN C eX11_push_20 1 4 (by decide) rfl ((gMo_told v0) 4) rfl ?_
  refine r_i2l C eX11_push_21 ?_
  refine r_lmul C eX11_push_22 ?_
  refine r_aload_n C eX11_push_23 1 rfl rfl ?_
  refine r_get (v := .ref (a0 (o0 + 6))) C eX11_push_24 FX11_25 0 rfl rfl ?_
  refine r_iconst C (v := 3) eX11_push_27 (by decide) ?_
  refine r_laldN C eX11_push_28 6 3 (by decide) rfl ((gMo_ship v0) 3) rfl ?_
  refine r_aload_n C eX11_push_29 1 rfl rfl ?_
  refine r_get (v := .ref (a0 (o0 + 1))) C eX11_push_30 FX11_7 0 rfl rfl ?_
  refine r_bipush C (v := 7) eX11_push_33 (by decide) ?_
  refine r_ialdN C eX11_push_35 1 7 (by decide) rfl ((gMo_told v0) 7) rfl ?_
  refine r_i2l C eX11_push_36 ?_
  refine r_lmul C eX11_push_37 ?_
  refine r_ldc2 C (v := 100) eX11_push_38 q1315 ?_
  refine r_ldiv C eX11_push_41 (by decide) ?_
  refine r_lsub C eX11_push_42 ?_
  obtain ⟨z2, hz2, hf⟩ := zlet_of hf
  refine r_naml hz2 ?_
  refine r_lstore_n C [(3, .long z2), (1, .long z1), (0, .ref (a0 o0))] eX11_push_43 rfl (by decide) rfl ?_
  refine r_aload_n C eX11_push_44 2 rfl rfl ?_
  refine r_get (v := .ref (a0 (o0 + 6))) C eX11_push_45 FX11_25 0 rfl rfl ?_
  refine r_bipush C (v := 8) eX11_push_48 (by decide) ?_
  refine r_laldN C eX11_push_50 6 8 (by decide) rfl ((gMo_ship v0) 8) rfl ?_
  refine r_ldc2 C (v := 10) eX11_push_51 q1366 ?_
  refine r_lmul C eX11_push_54 ?_
  refine r_lload_n C eX11_push_55 1 rfl rfl ?_
  obtain ⟨hz3, hf⟩ := zdv hf
  refine r_ldiv C eX11_push_56 hz3 ?_
  refine r_aload_n C eX11_push_57 2 rfl rfl ?_
  refine r_get (v := .ref (a0 (o0 + 1))) C eX11_push_58 FX11_7 0 rfl rfl ?_
  refine r_bipush C (v := 10) eX11_push_61 (by decide) ?_
  refine r_ialdN C eX11_push_63 1 10 (by decide) rfl ((gMo_told v0) 10) rfl ?_
  refine r_i2l C eX11_push_64 ?_
  refine r_lsub C eX11_push_65 ?_
  refine r_aload_n C eX11_push_66 2 rfl rfl ?_
  refine r_get (v := .ref (a0 (o0 + 6))) C eX11_push_67 FX11_25 0 rfl rfl ?_
  refine r_iconst C (v := 4) eX11_push_70 (by decide) ?_
  refine r_laldN C eX11_push_71 6 4 (by decide) rfl ((gMo_ship v0) 4) rfl ?_
  refine r_aload_n C eX11_push_72 2 rfl rfl ?_
  refine r_get (v := .ref (a0 (o0 + 1))) C eX11_push_73 FX11_7 0 rfl rfl ?_
  refine r_bipush C (v := 8) eX11_push_76 (by decide) ?_
  refine r_ialdN C eX11_push_78 1 8 (by decide) rfl ((gMo_told v0) 8) rfl ?_
  refine r_i2l C eX11_push_79 ?_
  refine r_lmul C eX11_push_80 ?_
  refine r_ldc2 C (v := 100) eX11_push_81 q1315 ?_
  refine r_ldiv C eX11_push_84 (by decide) ?_
  refine r_lsub C eX11_push_85 ?_
  obtain ⟨z4, hz4, hf⟩ := zlet_of hf
  refine r_naml hz4 ?_
  refine r_lstore C [(5, .long z4), (3, .long z2), (1, .long z1), (0, .ref (a0 o0))] eX11_push_86 (by decide) rfl ?_
  refine r_aload_n C eX11_push_88 3 rfl rfl ?_
  refine r_get (v := .ref (a0 (o0 + 6))) C eX11_push_89 FX11_25 0 rfl rfl ?_
  refine r_bipush C (v := 7) eX11_push_92 (by decide) ?_
  refine r_laldN C eX11_push_94 6 7 (by decide) rfl ((gMo_ship v0) 7) rfl ?_
  refine r_aload_n C eX11_push_95 3 rfl rfl ?_
  refine r_get (v := .ref (a0 (o0 + 6))) C eX11_push_96 FX11_25 0 rfl rfl ?_
  refine r_iconst C (v := 3) eX11_push_99 (by decide) ?_
  refine r_laldN C eX11_push_100 6 3 (by decide) rfl ((gMo_ship v0) 3) rfl ?_
  refine r_lmul C eX11_push_101 ?_
  refine r_ldc2 C (v := 100) eX11_push_102 q1315 ?_
  refine r_ldiv C eX11_push_105 (by decide) ?_
  refine r_aload_n C eX11_push_106 3 rfl rfl ?_
  refine r_get (v := .ref (a0 (o0 + 1))) C eX11_push_107 FX11_7 0 rfl rfl ?_
  refine r_bipush C (v := 6) eX11_push_110 (by decide) ?_
  refine r_ialdN C eX11_push_112 1 6 (by decide) rfl ((gMo_told v0) 6) rfl ?_
  refine r_i2l C eX11_push_113 ?_
  refine r_lmul C eX11_push_114 ?_
  refine r_lload_n C eX11_push_115 2 rfl rfl ?_
  obtain ⟨hz5, hf⟩ := zdv hf
  refine r_ldiv C eX11_push_116 hz5 ?_
  refine r_aload_n C eX11_push_117 3 rfl rfl ?_
  refine r_get (v := .ref (a0 (o0 + 6))) C eX11_push_118 FX11_25 0 rfl rfl ?_
  refine r_iconst C (v := 5) eX11_push_121 (by decide) ?_
  refine r_laldN C eX11_push_122 6 5 (by decide) rfl ((gMo_ship v0) 5) rfl ?_
  refine r_aload_n C eX11_push_123 3 rfl rfl ?_
  refine r_get (v := .ref (a0 (o0 + 1))) C eX11_push_124 FX11_7 0 rfl rfl ?_
  refine r_bipush C (v := 9) eX11_push_127 (by decide) ?_
  refine r_ialdN C eX11_push_129 1 9 (by decide) rfl ((gMo_told v0) 9) rfl ?_
  refine r_i2l C eX11_push_130 ?_
  refine r_lmul C eX11_push_131 ?_
  refine r_ldc2 C (v := 100) eX11_push_132 q1315 ?_
  refine r_ldiv C eX11_push_135 (by decide) ?_
  refine r_lsub C eX11_push_136 ?_
  obtain ⟨z6, hz6, hf⟩ := zlet_of hf
  refine r_naml hz6 ?_
  refine r_lstore C [(7, .long z6), (5, .long z4), (3, .long z2), (1, .long z1), (0, .ref (a0 o0))] eX11_push_137 (by decide) rfl ?_
  refine r_lload C eX11_push_139 0 rfl ?_
  refine r_aload_n C eX11_push_141 4 rfl rfl ?_
  refine r_get (v := .ref (a0 (o0 + 6))) C eX11_push_142 FX11_25 0 rfl rfl ?_
  refine r_bipush C (v := 6) eX11_push_145 (by decide) ?_
  refine r_laldN C eX11_push_147 6 6 (by decide) rfl ((gMo_ship v0) 6) rfl ?_
  refine r_lconst C (v := 0) eX11_push_148 (by decide) ?_
  obtain ⟨w7, hw7, hf⟩ := zbind hf
  have J8 : vV x 19 0 0 (W_Mo (z_g x) a0 o0 (gMo_ints v0) (gMo_told v0) (gMo_postX v0) (gMo_postStrong v0) (gMo_atRow v0) (gMo_heights v0) (gMo_ship v0) (gMo_lines v0) (gMo_text v0) (gMo_said v0) (gMo_readTold v0) (gMo_readX v0) (gMo_readStrong v0) (gMo_readRow v0) (gMo_parting v0) (gMo_wasShip v0) (gMo_wasLines v0) (gMo_worst v0) (gMo_logRow v0) (gMo_images v0) (gMo_isKept v0)) 174 [(0, .ref (a0 o0)), (1, .long z1), (3, .long z2), (5, .long z4)] [.long w7, .long z6] := by
    refine r_ladd C eX11_push_174 ?_
    obtain ⟨z11, hz11, hf⟩ := zlet_of hf
    refine r_naml hz11 ?_
    refine r_lstore C [(7, .long z11), (0, .ref (a0 o0)), (1, .long z1), (3, .long z2), (5, .long z4)] eX11_push_175 (by decide) rfl ?_
    refine r_iconst C (v := 0) eX11_push_177 (by decide) ?_
    refine r_istore C [(9, .int 0), (7, .long z11), (0, .ref (a0 o0)), (1, .long z1), (3, .long z2), (5, .long z4)] eX11_push_178 (by decide) rfl ?_
    obtain ⟨q13, h14, hf⟩ := zbind hf
    have J15 : vV x 19 0 0 (W_Mo (z_g x) a0 o0 (gMo_ints v0) (gMo_told v0) (gMo_postX v0) (gMo_postStrong v0) (gMo_atRow v0) (gMo_heights v0) (gMo_ship v0) (gMo_lines v0) (gMo_text v0) (gMo_said v0) (gMo_readTold v0) (gMo_readX v0) (gMo_readStrong v0) (gMo_readRow v0) (gMo_parting v0) (gMo_wasShip v0) (gMo_wasLines v0) (gMo_worst v0) (gMo_logRow v0) (gMo_images v0) (gMo_isKept v0)) 347 [(0, .ref (a0 o0)), (3, .long (q13.1)), (5, .long (q13.2.1)), (7, .long (q13.2.2.1))] [] := by
      refine r_aload_n C eX11_push_347 0 rfl rfl ?_
      refine r_get (v := .ref (a0 (o0 + 6))) C eX11_push_348 FX11_25 0 rfl rfl ?_
      refine r_iconst C (v := 3) eX11_push_351 (by decide) ?_
      refine r_aload_n C eX11_push_352 0 rfl rfl ?_
      refine r_get (v := .ref (a0 (o0 + 6))) C eX11_push_353 FX11_25 0 rfl rfl ?_
      refine r_iconst C (v := 3) eX11_push_356 (by decide) ?_
      refine r_laldN C eX11_push_357 6 3 (by decide) rfl ((gMo_ship v0) 3) rfl ?_
      refine r_lload_n C eX11_push_358 1 rfl rfl ?_
      refine r_ladd C eX11_push_359 ?_
      refine r_ldc2 C (v := 50000) eX11_push_360 q1371 ?_
      refine r_S_l (ws' := W_Mo (z_g x) a0 o0 (gMo_ints v0) (gMo_told v0) (gMo_postX v0) (gMo_postStrong v0) (gMo_atRow v0) (gMo_heights v0) (gMo_ship v0) (gMo_lines v0) (gMo_text v0) (gMo_said v0) (gMo_readTold v0) (gMo_readX v0) (gMo_readStrong v0) (gMo_readRow v0) (gMo_parting v0) (gMo_wasShip v0) (gMo_wasLines v0) (gMo_worst v0) (gMo_logRow v0) (gMo_images v0) (gMo_isKept v0)) C (c_Mo_held (z_l x) (z_g x)  (((gMo_ship v0) 3) + (q13.1)) 50000 _ rfl) eX11_push_363 MX11_251 [] rfl rfl rfl rfl [0, 1, 2, 3, 4, 5, 6, 7, 8, 9, 10, 11, 12, 13, 14, 15, 16, 17, 18, 19] rfl ⟨rfl, rfl, rfl, rfl, rfl, rfl, rfl, rfl, rfl, rfl, rfl, rfl, rfl, rfl, rfl, rfl, rfl, rfl, rfl, rfl, trivial⟩ 20 rfl rfl rfl rfl rfl rfl ?_
      obtain ⟨z41, hz41, hf⟩ := zlet_of hf
      refine r_naml hz41 ?_
      refine r_lastN (ws' := W_Mo (z_g x) a0 o0 (gMo_ints v0) (gMo_told v0) (gMo_postX v0) (gMo_postStrong v0) (gMo_atRow v0) (gMo_heights v0) (vp_updL (gMo_ship v0) 3 z41) (gMo_lines v0) (gMo_text v0) (gMo_said v0) (gMo_readTold v0) (gMo_readX v0) (gMo_readStrong v0) (gMo_readRow v0) (gMo_parting v0) (gMo_wasShip v0) (gMo_wasLines v0) (gMo_worst v0) (gMo_logRow v0) (gMo_images v0) (gMo_isKept v0)) C eX11_push_366 6 3 (by decide) rfl rfl ?_
      refine r_aload_n C eX11_push_367 0 rfl rfl ?_
      refine r_get (v := .ref (a0 (o0 + 6))) C eX11_push_368 FX11_25 0 rfl rfl ?_
      refine r_iconst C (v := 4) eX11_push_371 (by decide) ?_
      refine r_aload_n C eX11_push_372 0 rfl rfl ?_
      refine r_get (v := .ref (a0 (o0 + 6))) C eX11_push_373 FX11_25 0 rfl rfl ?_
      refine r_iconst C (v := 4) eX11_push_376 (by decide) ?_
      refine r_laldN C eX11_push_377 6 4 (by decide) rfl ((gMo_ship v0) 4) rfl ?_
      refine r_lload C eX11_push_378 2 rfl ?_
      refine r_ladd C eX11_push_380 ?_
      refine r_ldc2 C (v := 50000) eX11_push_381 q1371 ?_
      refine r_S_l (ws' := W_Mo (z_g x) a0 o0 (gMo_ints v0) (gMo_told v0) (gMo_postX v0) (gMo_postStrong v0) (gMo_atRow v0) (gMo_heights v0) (vp_updL (gMo_ship v0) 3 z41) (gMo_lines v0) (gMo_text v0) (gMo_said v0) (gMo_readTold v0) (gMo_readX v0) (gMo_readStrong v0) (gMo_readRow v0) (gMo_parting v0) (gMo_wasShip v0) (gMo_wasLines v0) (gMo_worst v0) (gMo_logRow v0) (gMo_images v0) (gMo_isKept v0)) C (c_Mo_held (z_l x) (z_g x)  (((gMo_ship v0) 4) + (q13.2.1)) 50000 _ rfl) eX11_push_384 MX11_251 [] rfl rfl rfl rfl [0, 1, 2, 3, 4, 5, 6, 7, 8, 9, 10, 11, 12, 13, 14, 15, 16, 17, 18, 19] rfl ⟨rfl, rfl, rfl, rfl, rfl, rfl, rfl, rfl, rfl, rfl, rfl, rfl, rfl, rfl, rfl, rfl, rfl, rfl, rfl, rfl, trivial⟩ 20 rfl rfl rfl rfl rfl rfl ?_
      obtain ⟨z42, hz42, hf⟩ := zlet_of hf
      refine r_naml hz42 ?_
      refine r_lastN (ws' := W_Mo (z_g x) a0 o0 (gMo_ints v0) (gMo_told v0) (gMo_postX v0) (gMo_postStrong v0) (gMo_atRow v0) (gMo_heights v0) (vp_updL (vp_updL (gMo_ship v0) 3 z41) 4 z42) (gMo_lines v0) (gMo_text v0) (gMo_said v0) (gMo_readTold v0) (gMo_readX v0) (gMo_readStrong v0) (gMo_readRow v0) (gMo_parting v0) (gMo_wasShip v0) (gMo_wasLines v0) (gMo_worst v0) (gMo_logRow v0) (gMo_images v0) (gMo_isKept v0)) C eX11_push_387 6 4 (by decide) rfl rfl ?_
      refine r_aload_n C eX11_push_388 0 rfl rfl ?_
      refine r_get (v := .ref (a0 (o0 + 6))) C eX11_push_389 FX11_25 0 rfl rfl ?_
      refine r_iconst C (v := 5) eX11_push_392 (by decide) ?_
      refine r_aload_n C eX11_push_393 0 rfl rfl ?_
      refine r_get (v := .ref (a0 (o0 + 6))) C eX11_push_394 FX11_25 0 rfl rfl ?_
      refine r_iconst C (v := 5) eX11_push_397 (by decide) ?_
      refine r_laldN C eX11_push_398 6 5 (by decide) rfl ((gMo_ship v0) 5) rfl ?_
      refine r_lload C eX11_push_399 3 rfl ?_
      refine r_ladd C eX11_push_401 ?_
      refine r_ldc2 C (v := 20000) eX11_push_402 q1375 ?_
      refine r_S_l (ws' := W_Mo (z_g x) a0 o0 (gMo_ints v0) (gMo_told v0) (gMo_postX v0) (gMo_postStrong v0) (gMo_atRow v0) (gMo_heights v0) (vp_updL (vp_updL (gMo_ship v0) 3 z41) 4 z42) (gMo_lines v0) (gMo_text v0) (gMo_said v0) (gMo_readTold v0) (gMo_readX v0) (gMo_readStrong v0) (gMo_readRow v0) (gMo_parting v0) (gMo_wasShip v0) (gMo_wasLines v0) (gMo_worst v0) (gMo_logRow v0) (gMo_images v0) (gMo_isKept v0)) C (c_Mo_held (z_l x) (z_g x)  (((gMo_ship v0) 5) + (q13.2.2.1)) 20000 _ rfl) eX11_push_405 MX11_251 [] rfl rfl rfl rfl [0, 1, 2, 3, 4, 5, 6, 7, 8, 9, 10, 11, 12, 13, 14, 15, 16, 17, 18, 19] rfl ⟨rfl, rfl, rfl, rfl, rfl, rfl, rfl, rfl, rfl, rfl, rfl, rfl, rfl, rfl, rfl, rfl, rfl, rfl, rfl, rfl, trivial⟩ 20 rfl rfl rfl rfl rfl rfl ?_
      obtain ⟨z43, hz43, hf⟩ := zlet_of hf
      refine r_naml hz43 ?_
      refine r_lastN (ws' := W_Mo (z_g x) a0 o0 (gMo_ints v0) (gMo_told v0) (gMo_postX v0) (gMo_postStrong v0) (gMo_atRow v0) (gMo_heights v0) (vp_updL (vp_updL (vp_updL (gMo_ship v0) 3 z41) 4 z42) 5 z43) (gMo_lines v0) (gMo_text v0) (gMo_said v0) (gMo_readTold v0) (gMo_readX v0) (gMo_readStrong v0) (gMo_readRow v0) (gMo_parting v0) (gMo_wasShip v0) (gMo_wasLines v0) (gMo_worst v0) (gMo_logRow v0) (gMo_images v0) (gMo_isKept v0)) C eX11_push_408 6 5 (by decide) rfl rfl ?_
      obtain rfl := Option.some.inj (show some ((vp_updL (vp_updL (vp_updL (gMo_ship v0) 3 z41) 4 z42) 5 z43) : (Nat → Int64)) = some _ from hf)
      exact hret _ _ _ eX11_push_409
    have L16 : ∀ (nL16 : Nat) (s12 : Int64 × Int64 × Int64 × Int32), lp (fB_Mo_push_180 v0 z1) nL16 s12 = some q13 → vV x 19 0 0 (W_Mo (z_g x) a0 o0 (gMo_ints v0) (gMo_told v0) (gMo_postX v0) (gMo_postStrong v0) (gMo_atRow v0) (gMo_heights v0) (gMo_ship v0) (gMo_lines v0) (gMo_text v0) (gMo_said v0) (gMo_readTold v0) (gMo_readX v0) (gMo_readStrong v0) (gMo_readRow v0) (gMo_parting v0) (gMo_wasShip v0) (gMo_wasLines v0) (gMo_worst v0) (gMo_logRow v0) (gMo_images v0) (gMo_isKept v0)) 180 [(0, .ref (a0 o0)), (1, .long z1), (3, .long (s12.1)), (5, .long (s12.2.1)), (7, .long (s12.2.2.1)), (9, .int (s12.2.2.2))] [] := by
      intro nL16
      induction nL16 with
      | zero => intro s12 hq; cases hq
      | succ nL16 ihL16 =>
        intro s12 hbL16
        rw [lp_succ, fB_Mo_push_180] at hbL16
        refine r_iload C eX11_push_180 5 rfl ?_
        refine r_bipush C (v := 6) eX11_push_182 (by decide) ?_
        refine r_icmp_ge C eX11_push_184 (fun c17 => ?_) (fun c17 => ?_)
        · rw [if_pos c17] at hbL16
          obtain rfl := Option.some.inj hbL16
          refine r_sub (lv' := [(0, .ref (a0 o0)), (3, .long (s12.1)), (5, .long (s12.2.1)), (7, .long (s12.2.2.1))]) [0, 2, 3, 4] rfl ?_
          exact J15
        · rw [if_neg c17] at hbL16
          refine r_aload_n C eX11_push_187 0 rfl rfl ?_
          refine r_iload C eX11_push_188 5 rfl ?_
          obtain ⟨r18, hr18, hbL16⟩ := zbind hbL16
          refine r_V_z (ws' := W_Mo (z_g x) a0 o0 (gMo_ints v0) (gMo_told v0) (gMo_postX v0) (gMo_postStrong v0) (gMo_atRow v0) (gMo_heights v0) (gMo_ship v0) (gMo_lines v0) (gMo_text v0) (gMo_said v0) (gMo_readTold v0) (gMo_readX v0) (gMo_readStrong v0) (gMo_readRow v0) (gMo_parting v0) (gMo_wasShip v0) (gMo_wasLines v0) (gMo_worst v0) (gMo_logRow v0) (gMo_images v0) (gMo_isKept v0)) C (c_Mo_isFast (z_l x) (z_g x) a0 o0 v0 (s12.2.2.2) r18 hr18) eX11_push_190 MX11_243 ⟨0, 11, _, _, rfl, rfl, rfl⟩ [0, 1, 2, 3, 4, 5, 6, 7, 8, 9, 10, 11, 12, 13, 14, 15, 16, 17, 18, 19] rfl rfl rfl rfl [] rfl trivial 20 rfl rfl rfl rfl rfl rfl (fun zb19 => ?_)
          refine r_if_eq C eX11_push_193 (fun c20 => ?_) (fun c20 => ?_)
          · rw [if_pos c20] at hbL16
            refine r_iinc C (v := ((s12.2.2.2) + 1)) [(9, .int ((s12.2.2.2) + 1)), (0, .ref (a0 o0)), (1, .long z1), (3, .long (s12.1)), (5, .long (s12.2.1)), (7, .long (s12.2.2.1))] eX11_push_341 5 rfl rfl (by decide) rfl ?_
            refine r_goto C eX11_push_344 ?_
            refine r_sub (lv' := [(0, .ref (a0 o0)), (1, .long z1), (3, .long (s12.1)), (5, .long (s12.2.1)), (7, .long (s12.2.2.1)), (9, .int ((s12.2.2.2) + 1))]) [1, 2, 3, 4, 5, 0] rfl ?_
            have hc := ihL16 ((s12.1), (s12.2.1), (s12.2.2.1), ((s12.2.2.2) + 1)) hbL16
            exact hc
          · rw [if_neg c20] at hbL16
            refine r_aload_n C eX11_push_196 0 rfl rfl ?_
            refine r_get (v := .ref (a0 (o0 + 7))) C eX11_push_197 FX11_29 0 rfl rfl ?_
            refine r_iconst C (v := 4) eX11_push_200 (by decide) ?_
            refine r_iload C eX11_push_201 5 rfl ?_
            refine r_imul C eX11_push_203 ?_
            refine r_iconst C (v := 1) eX11_push_204 (by decide) ?_
            refine r_iadd C eX11_push_205 ?_
            obtain ⟨hb21, hbL16⟩ := zchk hbL16
            refine r_iald C eX11_push_206 7 rfl (inb_in hb21) ((gMo_lines v0) (ix ((4 * (s12.2.2.2)) + 1))) rfl ?_
            obtain ⟨z22, hz22, hbL16⟩ := zlet_of hbL16
            refine r_nami hz22 ?_
            refine r_istore C [(10, .int z22), (0, .ref (a0 o0)), (1, .long z1), (3, .long (s12.1)), (5, .long (s12.2.1)), (7, .long (s12.2.2.1)), (9, .int (s12.2.2.2))] eX11_push_207 (by decide) rfl ?_
            refine r_aload_n C eX11_push_209 1 rfl rfl ?_
            refine r_iload C eX11_push_210 0 rfl ?_
            refine r_aload_n C eX11_push_212 1 rfl rfl ?_
            refine r_get (v := .ref (a0 (o0 + 7))) C eX11_push_213 FX11_29 0 rfl rfl ?_
            refine r_iconst C (v := 4) eX11_push_216 (by decide) ?_
            refine r_iload C eX11_push_217 6 rfl ?_
            refine r_imul C eX11_push_219 ?_
            refine r_iconst C (v := 2) eX11_push_220 (by decide) ?_
            refine r_iadd C eX11_push_221 ?_
            obtain ⟨hb23, hbL16⟩ := zchk hbL16
            refine r_iald C eX11_push_222 7 rfl (inb_in hb23) ((gMo_lines v0) (ix ((4 * (s12.2.2.2)) + 2))) rfl ?_
            obtain ⟨r24, hr24, hbL16⟩ := zbind hbL16
            refine r_V_l (ws' := W_Mo (z_g x) a0 o0 (gMo_ints v0) (gMo_told v0) (gMo_postX v0) (gMo_postStrong v0) (gMo_atRow v0) (gMo_heights v0) (gMo_ship v0) (gMo_lines v0) (gMo_text v0) (gMo_said v0) (gMo_readTold v0) (gMo_readX v0) (gMo_readStrong v0) (gMo_readRow v0) (gMo_parting v0) (gMo_wasShip v0) (gMo_wasLines v0) (gMo_worst v0) (gMo_logRow v0) (gMo_images v0) (gMo_isKept v0)) C (c_Mo_distance (z_l x) (z_g x) a0 o0 v0 z22 ((gMo_lines v0) (ix ((4 * (s12.2.2.2)) + 2))) r24 hr24) eX11_push_223 MX11_230 ⟨0, 11, _, _, rfl, rfl, rfl⟩ [0, 1, 2, 3, 4, 5, 6, 7, 8, 9, 10, 11, 12, 13, 14, 15, 16, 17, 18, 19] rfl rfl rfl rfl [] rfl trivial 20 rfl rfl rfl rfl rfl rfl ?_
            refine r_lstore C [(11, .long r24), (10, .int z22), (0, .ref (a0 o0)), (1, .long z1), (3, .long (s12.1)), (5, .long (s12.2.1)), (7, .long (s12.2.2.1)), (9, .int (s12.2.2.2))] eX11_push_226 (by decide) rfl ?_
            refine r_lload C eX11_push_228 0 rfl ?_
            refine r_lconst C (v := 1) eX11_push_230 (by decide) ?_
            obtain ⟨w25, hw25, hbL16⟩ := zlet_of hbL16
            have J26 : vV x 19 0 0 (W_Mo (z_g x) a0 o0 (gMo_ints v0) (gMo_told v0) (gMo_postX v0) (gMo_postStrong v0) (gMo_atRow v0) (gMo_heights v0) (gMo_ship v0) (gMo_lines v0) (gMo_text v0) (gMo_said v0) (gMo_readTold v0) (gMo_readX v0) (gMo_readStrong v0) (gMo_readRow v0) (gMo_parting v0) (gMo_wasShip v0) (gMo_wasLines v0) (gMo_worst v0) (gMo_logRow v0) (gMo_images v0) (gMo_isKept v0)) 241 [(0, .ref (a0 o0)), (1, .long z1), (3, .long (s12.1)), (5, .long (s12.2.1)), (7, .long (s12.2.2.1)), (9, .int (s12.2.2.2)), (10, .int z22)] [.long w25] := by
              refine r_lstore C [(11, .long w25), (0, .ref (a0 o0)), (1, .long z1), (3, .long (s12.1)), (5, .long (s12.2.1)), (7, .long (s12.2.2.1)), (9, .int (s12.2.2.2)), (10, .int z22)] eX11_push_241 (by decide) rfl ?_
              refine r_aload_n C eX11_push_243 1 rfl rfl ?_
              refine r_iload C eX11_push_244 6 rfl ?_
              obtain ⟨r28, hr28, hbL16⟩ := zbind hbL16
              refine r_V_l (ws' := W_Mo (z_g x) a0 o0 (gMo_ints v0) (gMo_told v0) (gMo_postX v0) (gMo_postStrong v0) (gMo_atRow v0) (gMo_heights v0) (gMo_ship v0) (gMo_lines v0) (gMo_text v0) (gMo_said v0) (gMo_readTold v0) (gMo_readX v0) (gMo_readStrong v0) (gMo_readRow v0) (gMo_parting v0) (gMo_wasShip v0) (gMo_wasLines v0) (gMo_worst v0) (gMo_logRow v0) (gMo_images v0) (gMo_isKept v0)) C (c_Mo_pull (z_l x) (z_g x) a0 o0 v0 (s12.2.2.2) r28 hr28) eX11_push_246 MX11_246 ⟨0, 11, _, _, rfl, rfl, rfl⟩ [0, 1, 2, 3, 4, 5, 6, 7, 8, 9, 10, 11, 12, 13, 14, 15, 16, 17, 18, 19] rfl rfl rfl rfl [] rfl trivial 20 rfl rfl rfl rfl rfl rfl ?_
              refine r_lstore C [(13, .long r28), (11, .long w25), (0, .ref (a0 o0)), (1, .long z1), (3, .long (s12.1)), (5, .long (s12.2.1)), (7, .long (s12.2.2.1)), (9, .int (s12.2.2.2)), (10, .int z22)] eX11_push_249 (by decide) rfl ?_
              refine r_aload_n C eX11_push_251 2 rfl rfl ?_
              refine r_get (v := .ref (a0 (o0 + 2))) C eX11_push_252 FX11_13 0 rfl rfl ?_
              refine r_aload_n C eX11_push_255 2 rfl rfl ?_
              refine r_get (v := .ref (a0 (o0 + 7))) C eX11_push_256 FX11_29 0 rfl rfl ?_
              refine r_iconst C (v := 4) eX11_push_259 (by decide) ?_
              refine r_iload C eX11_push_260 7 rfl ?_
              refine r_imul C eX11_push_262 ?_
              refine r_iconst C (v := 2) eX11_push_263 (by decide) ?_
              refine r_iadd C eX11_push_264 ?_
              obtain ⟨hb29, hbL16⟩ := zchk hbL16
              refine r_iald C eX11_push_265 7 rfl (inb_in hb29) ((gMo_lines v0) (ix ((4 * (s12.2.2.2)) + 2))) rfl ?_
              obtain ⟨hb30, hbL16⟩ := zchk hbL16
              refine r_iald C eX11_push_266 2 rfl (inb_in hb30) ((gMo_postX v0) (ix ((gMo_lines v0) (ix ((4 * (s12.2.2.2)) + 2))))) rfl ?_
              refine r_i2l C eX11_push_267 ?_
              refine r_aload_n C eX11_push_268 2 rfl rfl ?_
              refine r_iload C eX11_push_269 8 rfl ?_
              refine r_V_l (ws' := W_Mo (z_g x) a0 o0 (gMo_ints v0) (gMo_told v0) (gMo_postX v0) (gMo_postStrong v0) (gMo_atRow v0) (gMo_heights v0) (gMo_ship v0) (gMo_lines v0) (gMo_text v0) (gMo_said v0) (gMo_readTold v0) (gMo_readX v0) (gMo_readStrong v0) (gMo_readRow v0) (gMo_parting v0) (gMo_wasShip v0) (gMo_wasLines v0) (gMo_worst v0) (gMo_logRow v0) (gMo_images v0) (gMo_isKept v0)) C (c_Mo_along (z_l x) (z_g x) a0 o0 v0 z22 _ rfl) eX11_push_271 MX11_218 ⟨0, 11, _, _, rfl, rfl, rfl⟩ [0, 1, 2, 3, 4, 5, 6, 7, 8, 9, 10, 11, 12, 13, 14, 15, 16, 17, 18, 19] rfl rfl rfl rfl [] rfl trivial 20 rfl rfl rfl rfl rfl rfl ?_
              refine r_lsub C eX11_push_274 ?_
              obtain ⟨z31, hz31, hbL16⟩ := zlet_of hbL16
              refine r_naml hz31 ?_
              refine r_lstore C [(15, .long z31), (13, .long r28), (11, .long w25), (0, .ref (a0 o0)), (1, .long z1), (3, .long (s12.1)), (5, .long (s12.2.1)), (7, .long (s12.2.2.1)), (9, .int (s12.2.2.2)), (10, .int z22)] eX11_push_275 (by decide) rfl ?_
              refine r_lload C eX11_push_277 1 rfl ?_
              refine r_aload_n C eX11_push_279 3 rfl rfl ?_
              refine r_iload C eX11_push_280 9 rfl ?_
              refine r_V_l (ws' := W_Mo (z_g x) a0 o0 (gMo_ints v0) (gMo_told v0) (gMo_postX v0) (gMo_postStrong v0) (gMo_atRow v0) (gMo_heights v0) (gMo_ship v0) (gMo_lines v0) (gMo_text v0) (gMo_said v0) (gMo_readTold v0) (gMo_readX v0) (gMo_readStrong v0) (gMo_readRow v0) (gMo_parting v0) (gMo_wasShip v0) (gMo_wasLines v0) (gMo_worst v0) (gMo_logRow v0) (gMo_images v0) (gMo_isKept v0)) C (c_Mo_offOf (z_l x) (z_g x) a0 o0 v0 z22 _ rfl) eX11_push_282 MX11_221 ⟨0, 11, _, _, rfl, rfl, rfl⟩ [0, 1, 2, 3, 4, 5, 6, 7, 8, 9, 10, 11, 12, 13, 14, 15, 16, 17, 18, 19] rfl rfl rfl rfl [] rfl trivial 20 rfl rfl rfl rfl rfl rfl ?_
              refine r_lmul C eX11_push_285 ?_
              refine r_lload C eX11_push_286 2 rfl ?_
              obtain ⟨hz32, hbL16⟩ := zdv hbL16
              refine r_ldiv C eX11_push_288 hz32 ?_
              obtain ⟨z33, hz33, hbL16⟩ := zlet_of hbL16
              refine r_naml hz33 ?_
              refine r_lstore C [(17, .long z33), (15, .long z31), (13, .long r28), (11, .long w25), (0, .ref (a0 o0)), (1, .long z1), (3, .long (s12.1)), (5, .long (s12.2.1)), (7, .long (s12.2.2.1)), (9, .int (s12.2.2.2)), (10, .int z22)] eX11_push_289 (by decide) rfl ?_
              refine r_lload_n C eX11_push_291 6 rfl rfl ?_
              refine r_lload C eX11_push_292 2 rfl ?_
              refine r_lload C eX11_push_294 1 rfl ?_
              refine r_lmul C eX11_push_296 ?_
              refine r_lload C eX11_push_297 3 rfl ?_
              obtain ⟨hz34, hbL16⟩ := zdv hbL16
              refine r_ldiv C eX11_push_299 hz34 ?_
              refine r_ldc2 C (v := 10) eX11_push_300 q1366 ?_
              refine r_lmul C eX11_push_303 ?_
              refine r_lload_n C eX11_push_304 5 rfl rfl ?_
              obtain ⟨hz35, hbL16⟩ := zdv hbL16
              refine r_ldiv C eX11_push_305 hz35 ?_
              refine r_ladd C eX11_push_306 ?_
              obtain ⟨z36, hz36, hbL16⟩ := zlet_of hbL16
              refine r_naml hz36 ?_
              refine r_lstore_n C [(3, .long z36), (17, .long z33), (15, .long z31), (13, .long r28), (11, .long w25), (0, .ref (a0 o0)), (1, .long z1), (5, .long (s12.2.1)), (7, .long (s12.2.2.1)), (9, .int (s12.2.2.2)), (10, .int z22)] eX11_push_307 rfl (by decide) rfl ?_
              refine r_lload C eX11_push_308 7 rfl ?_
              refine r_lload C eX11_push_310 1 rfl ?_
              refine r_ldc2 C (v := 10) eX11_push_312 q1366 ?_
              refine r_lmul C eX11_push_315 ?_
              refine r_lload_n C eX11_push_316 6 rfl rfl ?_
              obtain ⟨hz37, hbL16⟩ := zdv hbL16
              refine r_ldiv C eX11_push_317 hz37 ?_
              refine r_ladd C eX11_push_318 ?_
              obtain ⟨z38, hz38, hbL16⟩ := zlet_of hbL16
              refine r_naml hz38 ?_
              refine r_lstore C [(5, .long z38), (3, .long z36), (17, .long z33), (15, .long z31), (13, .long r28), (11, .long w25), (0, .ref (a0 o0)), (1, .long z1), (7, .long (s12.2.2.1)), (9, .int (s12.2.2.2)), (10, .int z22)] eX11_push_319 (by decide) rfl ?_
              refine r_lload C eX11_push_321 8 rfl ?_
              refine r_lload C eX11_push_323 2 rfl ?_
              refine r_aload_n C eX11_push_325 6 rfl rfl ?_
              refine r_iload C eX11_push_326 10 rfl ?_
              refine r_V_l (ws' := W_Mo (z_g x) a0 o0 (gMo_ints v0) (gMo_told v0) (gMo_postX v0) (gMo_postStrong v0) (gMo_atRow v0) (gMo_heights v0) (gMo_ship v0) (gMo_lines v0) (gMo_text v0) (gMo_said v0) (gMo_readTold v0) (gMo_readX v0) (gMo_readStrong v0) (gMo_readRow v0) (gMo_parting v0) (gMo_wasShip v0) (gMo_wasLines v0) (gMo_worst v0) (gMo_logRow v0) (gMo_images v0) (gMo_isKept v0)) C (c_Mo_arm (z_l x) (z_g x) a0 o0 v0 z22 _ rfl) eX11_push_328 MX11_205 ⟨0, 11, _, _, rfl, rfl, rfl⟩ [0, 1, 2, 3, 4, 5, 6, 7, 8, 9, 10, 11, 12, 13, 14, 15, 16, 17, 18, 19] rfl rfl rfl rfl [] rfl trivial 20 rfl rfl rfl rfl rfl rfl ?_
              refine r_lmul C eX11_push_331 ?_
              refine r_lload_n C eX11_push_332 7 rfl rfl ?_
              obtain ⟨hz39, hbL16⟩ := zdv hbL16
              refine r_ldiv C eX11_push_333 hz39 ?_
              refine r_ldc2 C (v := 10) eX11_push_334 q1366 ?_
              refine r_ldiv C eX11_push_337 (by decide) ?_
              refine r_ladd C eX11_push_338 ?_
              obtain ⟨z40, hz40, hbL16⟩ := zlet_of hbL16
              refine r_naml hz40 ?_
              refine r_lstore C [(7, .long z40), (5, .long z38), (3, .long z36), (17, .long z33), (15, .long z31), (13, .long r28), (11, .long w25), (0, .ref (a0 o0)), (1, .long z1), (9, .int (s12.2.2.2)), (10, .int z22)] eX11_push_339 (by decide) rfl ?_
              refine r_iinc C (v := ((s12.2.2.2) + 1)) [(9, .int ((s12.2.2.2) + 1)), (7, .long z40), (5, .long z38), (3, .long z36), (17, .long z33), (15, .long z31), (13, .long r28), (11, .long w25), (0, .ref (a0 o0)), (1, .long z1), (10, .int z22)] eX11_push_341 9 rfl rfl (by decide) rfl ?_
              refine r_goto C eX11_push_344 ?_
              refine r_sub (lv' := [(0, .ref (a0 o0)), (1, .long z1), (3, .long z36), (5, .long z38), (7, .long z40), (9, .int ((s12.2.2.2) + 1))]) [8, 9, 3, 2, 1, 0] rfl ?_
              have hc := ihL16 (z36, z38, z40, ((s12.2.2.2) + 1)) hbL16
              exact hc
            refine r_lcmp_ge C eX11_push_231 eX11_push_232 (fun c27 => ?_) (fun c27 => ?_)
            · rw [if_pos c27] at hw25
              refine r_lload C eX11_push_239 0 rfl ?_
              subst hw25
              refine r_sub (lv' := [(0, .ref (a0 o0)), (1, .long z1), (3, .long (s12.1)), (5, .long (s12.2.1)), (7, .long (s12.2.2.1)), (9, .int (s12.2.2.2)), (10, .int z22)]) [2, 3, 4, 5, 6, 7, 1] rfl ?_
              exact J26 
            · rw [if_neg c27] at hw25
              refine r_lconst C (v := 1) eX11_push_235 (by decide) ?_
              refine r_goto C eX11_push_236 ?_
              subst hw25
              refine r_sub (lv' := [(0, .ref (a0 o0)), (1, .long z1), (3, .long (s12.1)), (5, .long (s12.2.1)), (7, .long (s12.2.2.1)), (9, .int (s12.2.2.2)), (10, .int z22)]) [2, 3, 4, 5, 6, 7, 1] rfl ?_
              exact J26 
    refine r_sub (lv' := [(0, .ref (a0 o0)), (1, .long z1), (3, .long z2), (5, .long z4), (7, .long z11), (9, .int 0)]) [2, 3, 4, 5, 1, 0] rfl ?_
    have hc := L16 LF (z2, z4, z11, 0) h14
    exact hc
  refine r_lcmp_ge C eX11_push_149 eX11_push_150 (fun c9 => ?_) (fun c9 => ?_)
  · rw [if_pos c9] at hw7
    refine r_lconst C (v := 0) eX11_push_173 (by decide) ?_
    obtain rfl := Option.some.inj hw7
    refine r_sub (lv' := [(0, .ref (a0 o0)), (1, .long z1), (3, .long z2), (5, .long z4)]) [4, 3, 2, 1] rfl ?_
    exact J8 
  · rw [if_neg c9] at hw7
    refine r_aload_n C eX11_push_153 4 rfl rfl ?_
    refine r_get (v := .ref (a0 (o0 + 6))) C eX11_push_154 FX11_25 0 rfl rfl ?_
    refine r_bipush C (v := 6) eX11_push_157 (by decide) ?_
    refine r_laldN C eX11_push_159 6 6 (by decide) rfl ((gMo_ship v0) 6) rfl ?_
    refine r_aload_n C eX11_push_160 4 rfl rfl ?_
    refine r_get (v := .ref (a0 (o0 + 1))) C eX11_push_161 FX11_7 0 rfl rfl ?_
    refine r_iconst C (v := 5) eX11_push_164 (by decide) ?_
    refine r_ialdN C eX11_push_165 1 5 (by decide) rfl ((gMo_told v0) 5) rfl ?_
    refine r_i2l C eX11_push_166 ?_
    refine r_lmul C eX11_push_167 ?_
    refine r_lload_n C eX11_push_168 3 rfl rfl ?_
    obtain ⟨hz10, hw7⟩ := zdv hw7
    refine r_ldiv C eX11_push_169 hz10 ?_
    refine r_goto C eX11_push_170 ?_
    obtain rfl := Option.some.inj hw7
    refine r_sub (lv' := [(0, .ref (a0 o0)), (1, .long z1), (3, .long z2), (5, .long z4)]) [4, 3, 2, 1] rfl ?_
    exact J8 
