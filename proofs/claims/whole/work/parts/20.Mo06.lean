theorem eX11_leastOf_0 : zd 1 cX11_leastOf 0 1 (.iload_n 0) := ⟨by decide +kernel, rfl⟩
theorem eX11_leastOf_1 : zd 1 cX11_leastOf 1 2 (.iconst 2) := ⟨by decide +kernel, rfl⟩
theorem eX11_leastOf_2 : zdi cX11_leastOf 2 5 11 (.if_icmp .ne) := ⟨9, by decide +kernel, rfl, by decide⟩
theorem eX11_leastOf_5 : zd 3 cX11_leastOf 5 8 (.ldc2_w 278) := ⟨by decide +kernel, rfl⟩
theorem eX11_leastOf_8 : zdi cX11_leastOf 8 11 57 (.goto) := ⟨49, by decide +kernel, rfl, by decide⟩
theorem eX11_leastOf_11 : zd 1 cX11_leastOf 11 12 (.iload_n 0) := ⟨by decide +kernel, rfl⟩
theorem eX11_leastOf_12 : zd 1 cX11_leastOf 12 13 (.iconst 3) := ⟨by decide +kernel, rfl⟩
theorem eX11_leastOf_13 : zdi cX11_leastOf 13 16 21 (.if_icmp .eq) := ⟨8, by decide +kernel, rfl, by decide⟩
theorem eX11_leastOf_16 : zd 1 cX11_leastOf 16 17 (.iload_n 0) := ⟨by decide +kernel, rfl⟩
theorem eX11_leastOf_17 : zd 1 cX11_leastOf 17 18 (.iconst 4) := ⟨by decide +kernel, rfl⟩
theorem eX11_leastOf_18 : zdi cX11_leastOf 18 21 27 (.if_icmp .ne) := ⟨9, by decide +kernel, rfl, by decide⟩
theorem eX11_leastOf_21 : zd 3 cX11_leastOf 21 24 (.ldc2_w 280) := ⟨by decide +kernel, rfl⟩
theorem eX11_leastOf_24 : zdi cX11_leastOf 24 27 57 (.goto) := ⟨33, by decide +kernel, rfl, by decide⟩
theorem eX11_leastOf_27 : zd 1 cX11_leastOf 27 28 (.iload_n 0) := ⟨by decide +kernel, rfl⟩
theorem eX11_leastOf_28 : zd 1 cX11_leastOf 28 29 (.iconst 5) := ⟨by decide +kernel, rfl⟩
theorem eX11_leastOf_29 : zdi cX11_leastOf 29 32 38 (.if_icmp .ne) := ⟨9, by decide +kernel, rfl, by decide⟩
theorem eX11_leastOf_32 : zd 3 cX11_leastOf 32 35 (.ldc2_w 282) := ⟨by decide +kernel, rfl⟩
theorem eX11_leastOf_35 : zdi cX11_leastOf 35 38 57 (.goto) := ⟨22, by decide +kernel, rfl, by decide⟩
theorem eX11_leastOf_38 : zd 1 cX11_leastOf 38 39 (.iload_n 0) := ⟨by decide +kernel, rfl⟩
theorem eX11_leastOf_39 : zd 2 cX11_leastOf 39 41 (.bipush 6) := ⟨by decide +kernel, rfl⟩
theorem eX11_leastOf_41 : zdi cX11_leastOf 41 44 50 (.if_icmp .eq) := ⟨9, by decide +kernel, rfl, by decide⟩
theorem eX11_leastOf_44 : zd 1 cX11_leastOf 44 45 (.iload_n 0) := ⟨by decide +kernel, rfl⟩
theorem eX11_leastOf_45 : zd 2 cX11_leastOf 45 47 (.bipush 7) := ⟨by decide +kernel, rfl⟩
theorem eX11_leastOf_47 : zdi cX11_leastOf 47 50 56 (.if_icmp .ne) := ⟨9, by decide +kernel, rfl, by decide⟩
theorem eX11_leastOf_50 : zd 3 cX11_leastOf 50 53 (.ldc2_w 284) := ⟨by decide +kernel, rfl⟩
theorem eX11_leastOf_53 : zdi cX11_leastOf 53 56 57 (.goto) := ⟨4, by decide +kernel, rfl, by decide⟩
theorem eX11_leastOf_56 : zd 1 cX11_leastOf 56 57 (.lconst 0) := ⟨by decide +kernel, rfl⟩
theorem eX11_leastOf_57 : zd 1 cX11_leastOf 57 58 (.lreturn) := ⟨by decide +kernel, rfl⟩
noncomputable def f_Mo_leastOf  (p1 : Int32) : Int64 := (if p1 = 2 then (-45000) else (if p1 = 3 then (-20000) else (if p1 = 4 then (-20000) else (if p1 = 5 then (-5000) else (if p1 = 6 then (-3) else (if p1 = 7 then (-3) else 0))))))
abbrev rm_Mo_leastOf : Room := { frames := 0, cells := 0, slots := 0, locals := 0 }
set_option maxHeartbeats 4000000 in
set_option maxRecDepth 100000 in
theorem c_Mo_leastOf (l : Launch) (g : zGl)  (p1 : Int32) (out : Int64) (hf : f_Mo_leastOf p1 = out) : zMl l yX11_leastOf cX11_leastOf 1 rm_Mo_leastOf g [.int p1] ([]) out ([]) := by
  refine zMl_of (lv := [(0, .int p1)]) (by decide) (Nat.le_of_ble_eq_true rfl) rfl (fun x hl hg C hret => ?_)
  subst hl; subst hg
  rw [f_Mo_leastOf] at hf
  refine r_iload_n C eX11_leastOf_0 0 rfl rfl ?_
  refine r_iconst C (v := 2) eX11_leastOf_1 (by decide) ?_
  refine r_icmp_ne C eX11_leastOf_2 (fun c1 => ?_) (fun c1 => ?_)
  · rw [if_neg c1] at hf
    refine r_iload_n C eX11_leastOf_11 0 rfl rfl ?_
    refine r_iconst C (v := 3) eX11_leastOf_12 (by decide) ?_
    refine r_icmp_eq C eX11_leastOf_13 (fun c2 => ?_) (fun c2 => ?_)
    · rw [if_pos c2] at hf
      refine r_ldc2 C (v := (-20000)) eX11_leastOf_21 q1285 ?_
      refine r_goto C eX11_leastOf_24 ?_
      subst hf
      exact hret _ _ _ eX11_leastOf_57
    · rw [if_neg c2] at hf
      refine r_iload_n C eX11_leastOf_16 0 rfl rfl ?_
      refine r_iconst C (v := 4) eX11_leastOf_17 (by decide) ?_
      refine r_icmp_ne C eX11_leastOf_18 (fun c3 => ?_) (fun c3 => ?_)
      · rw [if_neg c3] at hf
        refine r_iload_n C eX11_leastOf_27 0 rfl rfl ?_
        refine r_iconst C (v := 5) eX11_leastOf_28 (by decide) ?_
        refine r_icmp_ne C eX11_leastOf_29 (fun c4 => ?_) (fun c4 => ?_)
        · rw [if_neg c4] at hf
          refine r_iload_n C eX11_leastOf_38 0 rfl rfl ?_
          refine r_bipush C (v := 6) eX11_leastOf_39 (by decide) ?_
          refine r_icmp_eq C eX11_leastOf_41 (fun c5 => ?_) (fun c5 => ?_)
          · rw [if_pos c5] at hf
            refine r_ldc2 C (v := (-3)) eX11_leastOf_50 q1287 ?_
            refine r_goto C eX11_leastOf_53 ?_
            subst hf
            exact hret _ _ _ eX11_leastOf_57
          · rw [if_neg c5] at hf
            refine r_iload_n C eX11_leastOf_44 0 rfl rfl ?_
            refine r_bipush C (v := 7) eX11_leastOf_45 (by decide) ?_
            refine r_icmp_ne C eX11_leastOf_47 (fun c6 => ?_) (fun c6 => ?_)
            · rw [if_neg c6] at hf
              refine r_lconst C (v := 0) eX11_leastOf_56 (by decide) ?_
              subst hf
              exact hret _ _ _ eX11_leastOf_57
            · rw [if_pos c6] at hf
              refine r_ldc2 C (v := (-3)) eX11_leastOf_50 q1287 ?_
              refine r_goto C eX11_leastOf_53 ?_
              subst hf
              exact hret _ _ _ eX11_leastOf_57
        · rw [if_pos c4] at hf
          refine r_ldc2 C (v := (-5000)) eX11_leastOf_32 q1286 ?_
          refine r_goto C eX11_leastOf_35 ?_
          subst hf
          exact hret _ _ _ eX11_leastOf_57
      · rw [if_pos c3] at hf
        refine r_ldc2 C (v := (-20000)) eX11_leastOf_21 q1285 ?_
        refine r_goto C eX11_leastOf_24 ?_
        subst hf
        exact hret _ _ _ eX11_leastOf_57
  · rw [if_pos c1] at hf
    refine r_ldc2 C (v := (-45000)) eX11_leastOf_5 q1284 ?_
    refine r_goto C eX11_leastOf_8 ?_
    subst hf
    exact hret _ _ _ eX11_leastOf_57
theorem eX11_line_0 : zd 1 cX11_line 0 1 (.aload_n 0) := ⟨by decide +kernel, rfl⟩
theorem eX11_line_1 : zd 1 cX11_line 1 2 (.iload_n 1) := ⟨by decide +kernel, rfl⟩
theorem eX11_line_2 : zd 3 cX11_line 2 5 (.invokevirtual 243) := ⟨by decide +kernel, rfl⟩
theorem eX11_line_5 : zdi cX11_line 5 8 11 (.ifCond .ne) := ⟨6, by decide +kernel, rfl, by decide⟩
theorem eX11_line_8 : zd 2 cX11_line 8 10 (.ldc 202) := ⟨by decide +kernel, rfl⟩
theorem eX11_line_10 : zd 1 cX11_line 10 11 (.ireturn) := ⟨by decide +kernel, rfl⟩
theorem eX11_line_11 : zd 1 cX11_line 11 12 (.iload_n 2) := ⟨by decide +kernel, rfl⟩
theorem eX11_line_12 : zd 1 cX11_line 12 13 (.i2l) := ⟨by decide +kernel, rfl⟩
theorem eX11_line_13 : zd 1 cX11_line 13 14 (.lconst 0) := ⟨by decide +kernel, rfl⟩
theorem eX11_line_14 : zd 3 cX11_line 14 17 (.ldc2_w 216) := ⟨by decide +kernel, rfl⟩
theorem eX11_line_17 : zd 3 cX11_line 17 20 (.invokestatic 86) := ⟨by decide +kernel, rfl⟩
theorem eX11_line_20 : zdi cX11_line 20 23 36 (.ifCond .eq) := ⟨16, by decide +kernel, rfl, by decide⟩
theorem eX11_line_23 : zd 1 cX11_line 23 24 (.aload_n 0) := ⟨by decide +kernel, rfl⟩
theorem eX11_line_24 : zd 3 cX11_line 24 27 (.getfield 29) := ⟨by decide +kernel, rfl⟩
theorem eX11_line_27 : zd 1 cX11_line 27 28 (.iconst 4) := ⟨by decide +kernel, rfl⟩
theorem eX11_line_28 : zd 1 cX11_line 28 29 (.iload_n 1) := ⟨by decide +kernel, rfl⟩
theorem eX11_line_29 : zd 1 cX11_line 29 30 (.imul) := ⟨by decide +kernel, rfl⟩
theorem eX11_line_30 : zd 1 cX11_line 30 31 (.iconst 1) := ⟨by decide +kernel, rfl⟩
theorem eX11_line_31 : zd 1 cX11_line 31 32 (.iadd) := ⟨by decide +kernel, rfl⟩
theorem eX11_line_32 : zd 1 cX11_line 32 33 (.iload_n 2) := ⟨by decide +kernel, rfl⟩
theorem eX11_line_33 : zd 1 cX11_line 33 34 (.iadd) := ⟨by decide +kernel, rfl⟩
theorem eX11_line_34 : zd 1 cX11_line 34 35 (.iaload) := ⟨by decide +kernel, rfl⟩
theorem eX11_line_35 : zd 1 cX11_line 35 36 (.ireturn) := ⟨by decide +kernel, rfl⟩
theorem eX11_line_36 : zd 1 cX11_line 36 37 (.iload_n 2) := ⟨by decide +kernel, rfl⟩
theorem eX11_line_37 : zd 1 cX11_line 37 38 (.iconst 3) := ⟨by decide +kernel, rfl⟩
theorem eX11_line_38 : zdi cX11_line 38 41 69 (.if_icmp .ne) := ⟨31, by decide +kernel, rfl, by decide⟩
theorem eX11_line_41 : zd 1 cX11_line 41 42 (.aload_n 0) := ⟨by decide +kernel, rfl⟩
theorem eX11_line_42 : zd 1 cX11_line 42 43 (.aload_n 0) := ⟨by decide +kernel, rfl⟩
theorem eX11_line_43 : zd 3 cX11_line 43 46 (.getfield 29) := ⟨by decide +kernel, rfl⟩
theorem eX11_line_46 : zd 1 cX11_line 46 47 (.iconst 4) := ⟨by decide +kernel, rfl⟩
theorem eX11_line_47 : zd 1 cX11_line 47 48 (.iload_n 1) := ⟨by decide +kernel, rfl⟩
theorem eX11_line_48 : zd 1 cX11_line 48 49 (.imul) := ⟨by decide +kernel, rfl⟩
theorem eX11_line_49 : zd 1 cX11_line 49 50 (.iconst 1) := ⟨by decide +kernel, rfl⟩
theorem eX11_line_50 : zd 1 cX11_line 50 51 (.iadd) := ⟨by decide +kernel, rfl⟩
theorem eX11_line_51 : zd 1 cX11_line 51 52 (.iaload) := ⟨by decide +kernel, rfl⟩
theorem eX11_line_52 : zd 1 cX11_line 52 53 (.aload_n 0) := ⟨by decide +kernel, rfl⟩
theorem eX11_line_53 : zd 3 cX11_line 53 56 (.getfield 29) := ⟨by decide +kernel, rfl⟩
theorem eX11_line_56 : zd 1 cX11_line 56 57 (.iconst 4) := ⟨by decide +kernel, rfl⟩
theorem eX11_line_57 : zd 1 cX11_line 57 58 (.iload_n 1) := ⟨by decide +kernel, rfl⟩
theorem eX11_line_58 : zd 1 cX11_line 58 59 (.imul) := ⟨by decide +kernel, rfl⟩
theorem eX11_line_59 : zd 1 cX11_line 59 60 (.iconst 2) := ⟨by decide +kernel, rfl⟩
theorem eX11_line_60 : zd 1 cX11_line 60 61 (.iadd) := ⟨by decide +kernel, rfl⟩
theorem eX11_line_61 : zd 1 cX11_line 61 62 (.iaload) := ⟨by decide +kernel, rfl⟩
theorem eX11_line_62 : zd 3 cX11_line 62 65 (.invokevirtual 230) := ⟨by decide +kernel, rfl⟩
theorem eX11_line_65 : zd 1 cX11_line 65 66 (.l2i) := ⟨by decide +kernel, rfl⟩
theorem eX11_line_66 : zdi cX11_line 66 69 85 (.goto) := ⟨19, by decide +kernel, rfl, by decide⟩
theorem eX11_line_69 : zd 1 cX11_line 69 70 (.iload_n 2) := ⟨by decide +kernel, rfl⟩
theorem eX11_line_70 : zd 1 cX11_line 70 71 (.iconst 4) := ⟨by decide +kernel, rfl⟩
theorem eX11_line_71 : zdi cX11_line 71 74 83 (.if_icmp .ne) := ⟨12, by decide +kernel, rfl, by decide⟩
theorem eX11_line_74 : zd 1 cX11_line 74 75 (.aload_n 0) := ⟨by decide +kernel, rfl⟩
theorem eX11_line_75 : zd 1 cX11_line 75 76 (.iload_n 1) := ⟨by decide +kernel, rfl⟩
theorem eX11_line_76 : zd 3 cX11_line 76 79 (.invokevirtual 246) := ⟨by decide +kernel, rfl⟩
theorem eX11_line_79 : zd 1 cX11_line 79 80 (.l2i) := ⟨by decide +kernel, rfl⟩
theorem eX11_line_80 : zdi cX11_line 80 83 85 (.goto) := ⟨5, by decide +kernel, rfl, by decide⟩
theorem eX11_line_83 : zd 2 cX11_line 83 85 (.ldc 90) := ⟨by decide +kernel, rfl⟩
theorem eX11_line_85 : zd 1 cX11_line 85 86 (.ireturn) := ⟨by decide +kernel, rfl⟩
noncomputable def f_Mo_line (v0 : tMo) (p1 : Int32) (p2 : Int32) : Option (Int32) := (Option.bind (f_Mo_isFast v0 p1) (fun (r1 : Int32) => (if r1 = 0 then (some (-1000000001)) else (if (f_Mo_in p2.toInt64 0 2) = 0 then (if p2 = 3 then (if inb ((4 * p1) + 1) 24 = true then (if inb ((4 * p1) + 2) 24 = true then (Option.bind (f_Mo_distance v0 ((gMo_lines v0) (ix ((4 * p1) + 1))) ((gMo_lines v0) (ix ((4 * p1) + 2)))) (fun (r9 : Int64) => (some r9.toInt32))) else none) else none) else (if p2 = 4 then (Option.bind (f_Mo_pull v0 p1) (fun (r11 : Int64) => (some r11.toInt32))) else (some (-1000000002)))) else (if inb (((4 * p1) + 1) + p2) 24 = true then (some ((gMo_lines v0) (ix (((4 * p1) + 1) + p2)))) else none)))))
abbrev rm_Mo_line : Room := { frames := 5, cells := 0, slots := 0, locals := 114 }
set_option maxHeartbeats 4000000 in
set_option maxRecDepth 100000 in
theorem c_Mo_line (l : Launch) (g : zGl) (a0 : Nat → Nat) (o0 : Nat) (v0 : tMo) (p1 : Int32) (p2 : Int32) (out : Int32) (hf : f_Mo_line v0 p1 p2 = some out) : zMi l yX11_line cX11_line 3 rm_Mo_line g [.ref (a0 o0), .int p1, .int p2] (W_Mo g a0 o0 (gMo_ints v0) (gMo_told v0) (gMo_postX v0) (gMo_postStrong v0) (gMo_atRow v0) (gMo_heights v0) (gMo_ship v0) (gMo_lines v0) (gMo_text v0) (gMo_said v0) (gMo_readTold v0) (gMo_readX v0) (gMo_readStrong v0) (gMo_readRow v0) (gMo_parting v0) (gMo_wasShip v0) (gMo_wasLines v0) (gMo_worst v0) (gMo_logRow v0) (gMo_images v0) (gMo_isKept v0)) out (W_Mo g a0 o0 (gMo_ints v0) (gMo_told v0) (gMo_postX v0) (gMo_postStrong v0) (gMo_atRow v0) (gMo_heights v0) (gMo_ship v0) (gMo_lines v0) (gMo_text v0) (gMo_said v0) (gMo_readTold v0) (gMo_readX v0) (gMo_readStrong v0) (gMo_readRow v0) (gMo_parting v0) (gMo_wasShip v0) (gMo_wasLines v0) (gMo_worst v0) (gMo_logRow v0) (gMo_images v0) (gMo_isKept v0)) := by
  refine zMi_of (lv := [(0, .ref (a0 o0)), (1, .int p1), (2, .int p2)]) (by decide) (Nat.le_of_ble_eq_true rfl) rfl (fun x hl hg C hret => ?_)
  subst hl; subst hg
  rw [f_Mo_line] at hf
  refine r_aload_n C eX11_line_0 0 rfl rfl ?_
  refine r_iload_n C eX11_line_1 1 rfl rfl ?_
  obtain ⟨r1, hr1, hf⟩ := zbind hf
  refine r_V_z (ws' := W_Mo (z_g x) a0 o0 (gMo_ints v0) (gMo_told v0) (gMo_postX v0) (gMo_postStrong v0) (gMo_atRow v0) (gMo_heights v0) (gMo_ship v0) (gMo_lines v0) (gMo_text v0) (gMo_said v0) (gMo_readTold v0) (gMo_readX v0) (gMo_readStrong v0) (gMo_readRow v0) (gMo_parting v0) (gMo_wasShip v0) (gMo_wasLines v0) (gMo_worst v0) (gMo_logRow v0) (gMo_images v0) (gMo_isKept v0)) C (c_Mo_isFast (z_l x) (z_g x) a0 o0 v0 p1 r1 hr1) eX11_line_2 MX11_243 ⟨0, 11, _, _, rfl, rfl, rfl⟩ [0, 1, 2, 3, 4, 5, 6, 7, 8, 9, 10, 11, 12, 13, 14, 15, 16, 17, 18, 19] rfl rfl rfl rfl [] rfl trivial 20 rfl rfl rfl rfl rfl rfl (fun zb2 => ?_)
  refine r_if_ne C eX11_line_5 (fun c3 => ?_) (fun c3 => ?_)
  · rw [if_neg c3] at hf
    refine r_iload_n C eX11_line_11 2 rfl rfl ?_
    refine r_i2l C eX11_line_12 ?_
    refine r_lconst C (v := 0) eX11_line_13 (by decide) ?_
    refine r_ldc2 C (v := 2) eX11_line_14 q1365 ?_
    refine r_S_z (ws' := W_Mo (z_g x) a0 o0 (gMo_ints v0) (gMo_told v0) (gMo_postX v0) (gMo_postStrong v0) (gMo_atRow v0) (gMo_heights v0) (gMo_ship v0) (gMo_lines v0) (gMo_text v0) (gMo_said v0) (gMo_readTold v0) (gMo_readX v0) (gMo_readStrong v0) (gMo_readRow v0) (gMo_parting v0) (gMo_wasShip v0) (gMo_wasLines v0) (gMo_worst v0) (gMo_logRow v0) (gMo_images v0) (gMo_isKept v0)) C (c_Mo_in (z_l x) (z_g x)  p2.toInt64 0 2 _ rfl) eX11_line_17 MX11_86 [] rfl rfl rfl rfl [0, 1, 2, 3, 4, 5, 6, 7, 8, 9, 10, 11, 12, 13, 14, 15, 16, 17, 18, 19] rfl ⟨rfl, rfl, rfl, rfl, rfl, rfl, rfl, rfl, rfl, rfl, rfl, rfl, rfl, rfl, rfl, rfl, rfl, rfl, rfl, rfl, trivial⟩ 20 rfl rfl rfl rfl rfl rfl (fun zb4 => ?_)
    refine r_if_eq C eX11_line_20 (fun c5 => ?_) (fun c5 => ?_)
    · rw [if_pos c5] at hf
      refine r_iload_n C eX11_line_36 2 rfl rfl ?_
      refine r_iconst C (v := 3) eX11_line_37 (by decide) ?_
      refine r_icmp_ne C eX11_line_38 (fun c6 => ?_) (fun c6 => ?_)
      · rw [if_neg c6] at hf
        refine r_iload_n C eX11_line_69 2 rfl rfl ?_
        refine r_iconst C (v := 4) eX11_line_70 (by decide) ?_
        refine r_icmp_ne C eX11_line_71 (fun c10 => ?_) (fun c10 => ?_)
        · rw [if_neg c10] at hf
          refine r_ldc C (v := (-1000000002)) eX11_line_83 q1183 ?_
          obtain rfl := Option.some.inj (show some ((-1000000002) : Int32) = some _ from hf)
          exact hret _ _ _ eX11_line_85
        · rw [if_pos c10] at hf
          refine r_aload_n C eX11_line_74 0 rfl rfl ?_
          refine r_iload_n C eX11_line_75 1 rfl rfl ?_
          obtain ⟨r11, hr11, hf⟩ := zbind hf
          refine r_V_l (ws' := W_Mo (z_g x) a0 o0 (gMo_ints v0) (gMo_told v0) (gMo_postX v0) (gMo_postStrong v0) (gMo_atRow v0) (gMo_heights v0) (gMo_ship v0) (gMo_lines v0) (gMo_text v0) (gMo_said v0) (gMo_readTold v0) (gMo_readX v0) (gMo_readStrong v0) (gMo_readRow v0) (gMo_parting v0) (gMo_wasShip v0) (gMo_wasLines v0) (gMo_worst v0) (gMo_logRow v0) (gMo_images v0) (gMo_isKept v0)) C (c_Mo_pull (z_l x) (z_g x) a0 o0 v0 p1 r11 hr11) eX11_line_76 MX11_246 ⟨0, 11, _, _, rfl, rfl, rfl⟩ [0, 1, 2, 3, 4, 5, 6, 7, 8, 9, 10, 11, 12, 13, 14, 15, 16, 17, 18, 19] rfl rfl rfl rfl [] rfl trivial 20 rfl rfl rfl rfl rfl rfl ?_
          refine r_l2i C eX11_line_79 ?_
          refine r_goto C eX11_line_80 ?_
          obtain rfl := Option.some.inj (show some (r11.toInt32 : Int32) = some _ from hf)
          exact hret _ _ _ eX11_line_85
      · rw [if_pos c6] at hf
        refine r_aload_n C eX11_line_41 0 rfl rfl ?_
        refine r_aload_n C eX11_line_42 0 rfl rfl ?_
        refine r_get (v := .ref (a0 (o0 + 7))) C eX11_line_43 FX11_29 0 rfl rfl ?_
        refine r_iconst C (v := 4) eX11_line_46 (by decide) ?_
        refine r_iload_n C eX11_line_47 1 rfl rfl ?_
        refine r_imul C eX11_line_48 ?_
        refine r_iconst C (v := 1) eX11_line_49 (by decide) ?_
        refine r_iadd C eX11_line_50 ?_
        obtain ⟨hb7, hf⟩ := zchk hf
        refine r_iald C eX11_line_51 7 rfl (inb_in hb7) ((gMo_lines v0) (ix ((4 * p1) + 1))) rfl ?_
        refine r_aload_n C eX11_line_52 0 rfl rfl ?_
        refine r_get (v := .ref (a0 (o0 + 7))) C eX11_line_53 FX11_29 0 rfl rfl ?_
        refine r_iconst C (v := 4) eX11_line_56 (by decide) ?_
        refine r_iload_n C eX11_line_57 1 rfl rfl ?_
        refine r_imul C eX11_line_58 ?_
        refine r_iconst C (v := 2) eX11_line_59 (by decide) ?_
        refine r_iadd C eX11_line_60 ?_
        obtain ⟨hb8, hf⟩ := zchk hf
        refine r_iald C eX11_line_61 7 rfl (inb_in hb8) ((gMo_lines v0) (ix ((4 * p1) + 2))) rfl ?_
        obtain ⟨r9, hr9, hf⟩ := zbind hf
        refine r_V_l (ws' := W_Mo (z_g x) a0 o0 (gMo_ints v0) (gMo_told v0) (gMo_postX v0) (gMo_postStrong v0) (gMo_atRow v0) (gMo_heights v0) (gMo_ship v0) (gMo_lines v0) (gMo_text v0) (gMo_said v0) (gMo_readTold v0) (gMo_readX v0) (gMo_readStrong v0) (gMo_readRow v0) (gMo_parting v0) (gMo_wasShip v0) (gMo_wasLines v0) (gMo_worst v0) (gMo_logRow v0) (gMo_images v0) (gMo_isKept v0)) C (c_Mo_distance (z_l x) (z_g x) a0 o0 v0 ((gMo_lines v0) (ix ((4 * p1) + 1))) ((gMo_lines v0) (ix ((4 * p1) + 2))) r9 hr9) eX11_line_62 MX11_230 ⟨0, 11, _, _, rfl, rfl, rfl⟩ [0, 1, 2, 3, 4, 5, 6, 7, 8, 9, 10, 11, 12, 13, 14, 15, 16, 17, 18, 19] rfl rfl rfl rfl [] rfl trivial 20 rfl rfl rfl rfl rfl rfl ?_
        refine r_l2i C eX11_line_65 ?_
        refine r_goto C eX11_line_66 ?_
        obtain rfl := Option.some.inj (show some (r9.toInt32 : Int32) = some _ from hf)
        exact hret _ _ _ eX11_line_85
    · rw [if_neg c5] at hf
      refine r_aload_n C eX11_line_23 0 rfl rfl ?_
      refine r_get (v := .ref (a0 (o0 + 7))) C eX11_line_24 FX11_29 0 rfl rfl ?_
      refine r_iconst C (v := 4) eX11_line_27 (by decide) ?_
      refine r_iload_n C eX11_line_28 1 rfl rfl ?_
      refine r_imul C eX11_line_29 ?_
      refine r_iconst C (v := 1) eX11_line_30 (by decide) ?_
      refine r_iadd C eX11_line_31 ?_
      refine r_iload_n C eX11_line_32 2 rfl rfl ?_
      refine r_iadd C eX11_line_33 ?_
      obtain ⟨hb12, hf⟩ := zchk hf
      refine r_iald C eX11_line_34 7 rfl (inb_in hb12) ((gMo_lines v0) (ix (((4 * p1) + 1) + p2))) rfl ?_
      obtain rfl := Option.some.inj (show some (((gMo_lines v0) (ix (((4 * p1) + 1) + p2))) : Int32) = some _ from hf)
      exact hret _ _ _ eX11_line_35
  · rw [if_pos c3] at hf
    refine r_ldc C (v := (-1000000001)) eX11_line_8 q1276 ?_
    obtain rfl := Option.some.inj (show some ((-1000000001) : Int32) = some _ from hf)
    exact hret _ _ _ eX11_line_10
theorem eX11_log_0 : zd 1 cX11_log 0 1 (.iload_n 1) := ⟨by decide +kernel, rfl⟩
theorem eX11_log_1 : zd 1 cX11_log 1 2 (.i2l) := ⟨by decide +kernel, rfl⟩
theorem eX11_log_2 : zd 3 cX11_log 2 5 (.ldc2_w 405) := ⟨by decide +kernel, rfl⟩
theorem eX11_log_5 : zd 3 cX11_log 5 8 (.ldc2_w 407) := ⟨by decide +kernel, rfl⟩
theorem eX11_log_8 : zd 3 cX11_log 8 11 (.invokestatic 86) := ⟨by decide +kernel, rfl⟩
theorem eX11_log_11 : zdi cX11_log 11 14 17 (.ifCond .ne) := ⟨6, by decide +kernel, rfl, by decide⟩
theorem eX11_log_14 : zd 2 cX11_log 14 16 (.ldc 90) := ⟨by decide +kernel, rfl⟩
theorem eX11_log_16 : zd 1 cX11_log 16 17 (.ireturn) := ⟨by decide +kernel, rfl⟩
theorem eX11_log_17 : zd 1 cX11_log 17 18 (.aload_n 0) := ⟨by decide +kernel, rfl⟩
theorem eX11_log_18 : zd 3 cX11_log 18 21 (.getfield 409) := ⟨by decide +kernel, rfl⟩
theorem eX11_log_21 : zd 2 cX11_log 21 23 (.bipush 60) := ⟨by decide +kernel, rfl⟩
theorem eX11_log_23 : zdi cX11_log 23 26 29 (.if_icmp .ne) := ⟨6, by decide +kernel, rfl, by decide⟩
theorem eX11_log_26 : zd 2 cX11_log 26 28 (.ldc 94) := ⟨by decide +kernel, rfl⟩
theorem eX11_log_28 : zd 1 cX11_log 28 29 (.ireturn) := ⟨by decide +kernel, rfl⟩
theorem eX11_log_29 : zd 1 cX11_log 29 30 (.aload_n 0) := ⟨by decide +kernel, rfl⟩
theorem eX11_log_30 : zd 3 cX11_log 30 33 (.getfield 63) := ⟨by decide +kernel, rfl⟩
theorem eX11_log_33 : zd 1 cX11_log 33 34 (.aload_n 0) := ⟨by decide +kernel, rfl⟩
theorem eX11_log_34 : zd 3 cX11_log 34 37 (.getfield 409) := ⟨by decide +kernel, rfl⟩
theorem eX11_log_37 : zd 1 cX11_log 37 38 (.iload_n 1) := ⟨by decide +kernel, rfl⟩
theorem eX11_log_38 : zd 1 cX11_log 38 39 (.iastore) := ⟨by decide +kernel, rfl⟩
theorem eX11_log_39 : zd 1 cX11_log 39 40 (.aload_n 0) := ⟨by decide +kernel, rfl⟩
theorem eX11_log_40 : zd 1 cX11_log 40 41 (.dup) := ⟨by decide +kernel, rfl⟩
theorem eX11_log_41 : zd 3 cX11_log 41 44 (.getfield 409) := ⟨by decide +kernel, rfl⟩
theorem eX11_log_44 : zd 1 cX11_log 44 45 (.iconst 1) := ⟨by decide +kernel, rfl⟩
theorem eX11_log_45 : zd 1 cX11_log 45 46 (.iadd) := ⟨by decide +kernel, rfl⟩
theorem eX11_log_46 : zd 3 cX11_log 46 49 (.putfield 409) := ⟨by decide +kernel, rfl⟩
theorem eX11_log_49 : zd 1 cX11_log 49 50 (.aload_n 0) := ⟨by decide +kernel, rfl⟩
theorem eX11_log_50 : zd 3 cX11_log 50 53 (.getfield 409) := ⟨by decide +kernel, rfl⟩
theorem eX11_log_53 : zd 1 cX11_log 53 54 (.ireturn) := ⟨by decide +kernel, rfl⟩
noncomputable def f_Mo_log (v0 : tMo) (p1 : Int32) : Option (Int32 × (Nat → Int32) × (Nat → Int32)) := (if (f_Mo_in p1.toInt64 (-99999) 99999) = 0 then (some ((-1000000002), (gMo_ints v0), (gMo_logRow v0))) else (if ((gMo_ints v0) 30) = 60 then (some ((-1000000004), (gMo_ints v0), (gMo_logRow v0))) else (if inb ((gMo_ints v0) 30) 60 = true then (zlet (((gMo_ints v0) 30) + 1) (fun (z5 : Int32) => (some (z5, (upd (gMo_ints v0) 30 z5), (upd (gMo_logRow v0) (ix ((gMo_ints v0) 30)) p1))))) else none)))
abbrev rm_Mo_log : Room := { frames := 1, cells := 0, slots := 0, locals := 25 }
set_option maxHeartbeats 4000000 in
set_option maxRecDepth 100000 in
theorem c_Mo_log (l : Launch) (g : zGl) (a0 : Nat → Nat) (o0 : Nat) (v0 : tMo) (p1 : Int32) (out : Int32 × (Nat → Int32) × (Nat → Int32)) (hf : f_Mo_log v0 p1 = some out) : zMi l yX11_log cX11_log 2 rm_Mo_log g [.ref (a0 o0), .int p1] (W_Mo g a0 o0 (gMo_ints v0) (gMo_told v0) (gMo_postX v0) (gMo_postStrong v0) (gMo_atRow v0) (gMo_heights v0) (gMo_ship v0) (gMo_lines v0) (gMo_text v0) (gMo_said v0) (gMo_readTold v0) (gMo_readX v0) (gMo_readStrong v0) (gMo_readRow v0) (gMo_parting v0) (gMo_wasShip v0) (gMo_wasLines v0) (gMo_worst v0) (gMo_logRow v0) (gMo_images v0) (gMo_isKept v0)) (out.1) (W_Mo g a0 o0 (out.2.1) (gMo_told v0) (gMo_postX v0) (gMo_postStrong v0) (gMo_atRow v0) (gMo_heights v0) (gMo_ship v0) (gMo_lines v0) (gMo_text v0) (gMo_said v0) (gMo_readTold v0) (gMo_readX v0) (gMo_readStrong v0) (gMo_readRow v0) (gMo_parting v0) (gMo_wasShip v0) (gMo_wasLines v0) (gMo_worst v0) (out.2.2) (gMo_images v0) (gMo_isKept v0)) := by
  refine zMi_of (lv := [(0, .ref (a0 o0)), (1, .int p1)]) (by decide) (Nat.le_of_ble_eq_true rfl) rfl (fun x hl hg C hret => ?_)
  subst hl; subst hg
  rw [f_Mo_log] at hf
  refine r_iload_n C eX11_log_0 1 rfl rfl ?_
  refine r_i2l C eX11_log_1 ?_
  refine r_ldc2 C (v := (-99999)) eX11_log_2 q1553 ?_
  refine r_ldc2 C (v := 99999) eX11_log_5 q1554 ?_
  refine r_S_z (ws' := W_Mo (z_g x) a0 o0 (gMo_ints v0) (gMo_told v0) (gMo_postX v0) (gMo_postStrong v0) (gMo_atRow v0) (gMo_heights v0) (gMo_ship v0) (gMo_lines v0) (gMo_text v0) (gMo_said v0) (gMo_readTold v0) (gMo_readX v0) (gMo_readStrong v0) (gMo_readRow v0) (gMo_parting v0) (gMo_wasShip v0) (gMo_wasLines v0) (gMo_worst v0) (gMo_logRow v0) (gMo_images v0) (gMo_isKept v0)) C (c_Mo_in (z_l x) (z_g x)  p1.toInt64 (-99999) 99999 _ rfl) eX11_log_8 MX11_86 [] rfl rfl rfl rfl [0, 1, 2, 3, 4, 5, 6, 7, 8, 9, 10, 11, 12, 13, 14, 15, 16, 17, 18, 19] rfl ⟨rfl, rfl, rfl, rfl, rfl, rfl, rfl, rfl, rfl, rfl, rfl, rfl, rfl, rfl, rfl, rfl, rfl, rfl, rfl, rfl, trivial⟩ 20 rfl rfl rfl rfl rfl rfl (fun zb1 => ?_)
  refine r_if_ne C eX11_log_11 (fun c2 => ?_) (fun c2 => ?_)
  · rw [if_neg c2] at hf
    refine r_aload_n C eX11_log_17 0 rfl rfl ?_
    refine r_get (v := .int ((gMo_ints v0) 30)) C eX11_log_18 FX11_409 0 rfl rfl ?_
    refine r_bipush C (v := 60) eX11_log_21 (by decide) ?_
    refine r_icmp_ne C eX11_log_23 (fun c3 => ?_) (fun c3 => ?_)
    · rw [if_neg c3] at hf
      refine r_aload_n C eX11_log_29 0 rfl rfl ?_
      refine r_get (v := .ref (a0 (o0 + 17))) C eX11_log_30 FX11_63 0 rfl rfl ?_
      refine r_aload_n C eX11_log_33 0 rfl rfl ?_
      refine r_get (v := .int ((gMo_ints v0) 30)) C eX11_log_34 FX11_409 0 rfl rfl ?_
      refine r_iload_n C eX11_log_37 1 rfl rfl ?_
      obtain ⟨hb4, hf⟩ := zchk hf
      refine r_iast (ws' := W_Mo (z_g x) a0 o0 (gMo_ints v0) (gMo_told v0) (gMo_postX v0) (gMo_postStrong v0) (gMo_atRow v0) (gMo_heights v0) (gMo_ship v0) (gMo_lines v0) (gMo_text v0) (gMo_said v0) (gMo_readTold v0) (gMo_readX v0) (gMo_readStrong v0) (gMo_readRow v0) (gMo_parting v0) (gMo_wasShip v0) (gMo_wasLines v0) (gMo_worst v0) (upd (gMo_logRow v0) (ix ((gMo_ints v0) 30)) p1) (gMo_images v0) (gMo_isKept v0)) C eX11_log_38 17 rfl (inb_in hb4) rfl ?_
      refine r_aload_n C eX11_log_39 0 rfl rfl ?_
      refine r_dup C eX11_log_40 rfl ?_
      refine r_get (v := .int ((gMo_ints v0) 30)) C eX11_log_41 FX11_409 0 rfl rfl ?_
      refine r_iconst C (v := 1) eX11_log_44 (by decide) ?_
      refine r_iadd C eX11_log_45 ?_
      obtain ⟨z5, hz5, hf⟩ := zlet_of hf
      refine r_nami hz5 ?_
      refine r_put (ws' := W_Mo (z_g x) a0 o0 (upd (gMo_ints v0) 30 z5) (gMo_told v0) (gMo_postX v0) (gMo_postStrong v0) (gMo_atRow v0) (gMo_heights v0) (gMo_ship v0) (gMo_lines v0) (gMo_text v0) (gMo_said v0) (gMo_readTold v0) (gMo_readX v0) (gMo_readStrong v0) (gMo_readRow v0) (gMo_parting v0) (gMo_wasShip v0) (gMo_wasLines v0) (gMo_worst v0) (upd (gMo_logRow v0) (ix ((gMo_ints v0) 30)) p1) (gMo_images v0) (gMo_isKept v0)) C eX11_log_46 PX11_409 0 rfl rfl rfl (Nat.le_of_ble_eq_true rfl) rfl ?_
      refine r_aload_n C eX11_log_49 0 rfl rfl ?_
      refine r_get (v := .int z5) C eX11_log_50 FX11_409 0 rfl rfl ?_
      obtain rfl := Option.some.inj (show some ((z5, (upd (gMo_ints v0) 30 z5), (upd (gMo_logRow v0) (ix ((gMo_ints v0) 30)) p1)) : Int32 × (Nat → Int32) × (Nat → Int32)) = some _ from hf)
      exact hret _ _ _ eX11_log_53
    · rw [if_pos c3] at hf
      refine r_ldc C (v := (-1000000004)) eX11_log_26 q1184 ?_
      obtain rfl := Option.some.inj (show some (((-1000000004), (gMo_ints v0), (gMo_logRow v0)) : Int32 × (Nat → Int32) × (Nat → Int32)) = some _ from hf)
      exact hret _ _ _ eX11_log_28
  · rw [if_pos c2] at hf
    refine r_ldc C (v := (-1000000002)) eX11_log_14 q1183 ?_
    obtain rfl := Option.some.inj (show some (((-1000000002), (gMo_ints v0), (gMo_logRow v0)) : Int32 × (Nat → Int32) × (Nat → Int32)) = some _ from hf)
    exact hret _ _ _ eX11_log_16
theorem eX11_mostOf_0 : zd 1 cX11_mostOf 0 1 (.iload_n 0) := ⟨by decide +kernel, rfl⟩
theorem eX11_mostOf_1 : zdi cX11_mostOf 1 4 10 (.ifCond .ne) := ⟨9, by decide +kernel, rfl, by decide⟩
theorem eX11_mostOf_4 : zd 3 cX11_mostOf 4 7 (.ldc2_w 286) := ⟨by decide +kernel, rfl⟩
theorem eX11_mostOf_7 : zdi cX11_mostOf 7 10 38 (.goto) := ⟨31, by decide +kernel, rfl, by decide⟩
theorem eX11_mostOf_10 : zd 1 cX11_mostOf 10 11 (.iload_n 0) := ⟨by decide +kernel, rfl⟩
theorem eX11_mostOf_11 : zd 1 cX11_mostOf 11 12 (.iconst 1) := ⟨by decide +kernel, rfl⟩
theorem eX11_mostOf_12 : zdi cX11_mostOf 12 15 21 (.if_icmp .ne) := ⟨9, by decide +kernel, rfl, by decide⟩
theorem eX11_mostOf_15 : zd 3 cX11_mostOf 15 18 (.ldc2_w 276) := ⟨by decide +kernel, rfl⟩
theorem eX11_mostOf_18 : zdi cX11_mostOf 18 21 38 (.goto) := ⟨20, by decide +kernel, rfl, by decide⟩
theorem eX11_mostOf_21 : zd 1 cX11_mostOf 21 22 (.iload_n 0) := ⟨by decide +kernel, rfl⟩
theorem eX11_mostOf_22 : zd 2 cX11_mostOf 22 24 (.bipush 8) := ⟨by decide +kernel, rfl⟩
theorem eX11_mostOf_24 : zdi cX11_mostOf 24 27 33 (.if_icmp .ne) := ⟨9, by decide +kernel, rfl, by decide⟩
theorem eX11_mostOf_27 : zd 3 cX11_mostOf 27 30 (.ldc2_w 288) := ⟨by decide +kernel, rfl⟩
theorem eX11_mostOf_30 : zdi cX11_mostOf 30 33 38 (.goto) := ⟨8, by decide +kernel, rfl, by decide⟩
theorem eX11_mostOf_33 : zd 1 cX11_mostOf 33 34 (.iload_n 0) := ⟨by decide +kernel, rfl⟩
theorem eX11_mostOf_34 : zd 3 cX11_mostOf 34 37 (.invokestatic 290) := ⟨by decide +kernel, rfl⟩
theorem eX11_mostOf_37 : zd 1 cX11_mostOf 37 38 (.lneg) := ⟨by decide +kernel, rfl⟩
theorem eX11_mostOf_38 : zd 1 cX11_mostOf 38 39 (.lreturn) := ⟨by decide +kernel, rfl⟩
theorem MX11_290 : zlS RX11 290 yX11_leastOf cX11_leastOf 1 ((Option.some FieldType.long)) 1 := ⟨q1281, q1282, q12, q1283, by decide, by decide, by decide +kernel⟩
noncomputable def f_Mo_mostOf  (p1 : Int32) : Int64 := (if p1 = 0 then 9999 else (if p1 = 1 then 30000 else (if p1 = 8 then 99 else (-(f_Mo_leastOf p1)))))
abbrev rm_Mo_mostOf : Room := { frames := 1, cells := 0, slots := 0, locals := 20 }
set_option maxHeartbeats 4000000 in
set_option maxRecDepth 100000 in
theorem c_Mo_mostOf (l : Launch) (g : zGl)  (p1 : Int32) (out : Int64) (hf : f_Mo_mostOf p1 = out) : zMl l yX11_mostOf cX11_mostOf 1 rm_Mo_mostOf g [.int p1] ([]) out ([]) := by
  refine zMl_of (lv := [(0, .int p1)]) (by decide) (Nat.le_of_ble_eq_true rfl) rfl (fun x hl hg C hret => ?_)
  subst hl; subst hg
  rw [f_Mo_mostOf] at hf
  refine r_iload_n C eX11_mostOf_0 0 rfl rfl ?_
  refine r_if_ne C eX11_mostOf_1 (fun c1 => ?_) (fun c1 => ?_)
  · rw [if_neg c1] at hf
    refine r_iload_n C eX11_mostOf_10 0 rfl rfl ?_
    refine r_iconst C (v := 1) eX11_mostOf_11 (by decide) ?_
    refine r_icmp_ne C eX11_mostOf_12 (fun c2 => ?_) (fun c2 => ?_)
    · rw [if_neg c2] at hf
      refine r_iload_n C eX11_mostOf_21 0 rfl rfl ?_
      refine r_bipush C (v := 8) eX11_mostOf_22 (by decide) ?_
      refine r_icmp_ne C eX11_mostOf_24 (fun c3 => ?_) (fun c3 => ?_)
      · rw [if_neg c3] at hf
        refine r_iload_n C eX11_mostOf_33 0 rfl rfl ?_
        refine r_S_l (ws' := []) C (c_Mo_leastOf (z_l x) (z_g x)  p1 _ rfl) eX11_mostOf_34 MX11_290 [] rfl rfl rfl rfl [] rfl trivial 0 rfl rfl rfl rfl rfl rfl ?_
        refine r_lneg C eX11_mostOf_37 ?_
        subst hf
        exact hret _ _ _ eX11_mostOf_38
      · rw [if_pos c3] at hf
        refine r_ldc2 C (v := 99) eX11_mostOf_27 q1293 ?_
        refine r_goto C eX11_mostOf_30 ?_
        subst hf
        exact hret _ _ _ eX11_mostOf_38
    · rw [if_pos c2] at hf
      refine r_ldc2 C (v := 30000) eX11_mostOf_15 q1292 ?_
      refine r_goto C eX11_mostOf_18 ?_
      subst hf
      exact hret _ _ _ eX11_mostOf_38
  · rw [if_pos c1] at hf
    refine r_ldc2 C (v := 9999) eX11_mostOf_4 q1291 ?_
    refine r_goto C eX11_mostOf_7 ?_
    subst hf
    exact hret _ _ _ eX11_mostOf_38
theorem eX11_needsOf_0 : zd 1 cX11_needsOf 0 1 (.aload_n 0) := ⟨by decide +kernel, rfl⟩
theorem eX11_needsOf_1 : zd 3 cX11_needsOf 1 4 (.getfield 13) := ⟨by decide +kernel, rfl⟩
theorem eX11_needsOf_4 : zd 1 cX11_needsOf 4 5 (.aload_n 0) := ⟨by decide +kernel, rfl⟩
theorem eX11_needsOf_5 : zd 3 cX11_needsOf 5 8 (.getfield 29) := ⟨by decide +kernel, rfl⟩
theorem eX11_needsOf_8 : zd 1 cX11_needsOf 8 9 (.iconst 4) := ⟨by decide +kernel, rfl⟩
theorem eX11_needsOf_9 : zd 1 cX11_needsOf 9 10 (.iload_n 1) := ⟨by decide +kernel, rfl⟩
theorem eX11_needsOf_10 : zd 1 cX11_needsOf 10 11 (.imul) := ⟨by decide +kernel, rfl⟩
theorem eX11_needsOf_11 : zd 1 cX11_needsOf 11 12 (.iconst 2) := ⟨by decide +kernel, rfl⟩
theorem eX11_needsOf_12 : zd 1 cX11_needsOf 12 13 (.iadd) := ⟨by decide +kernel, rfl⟩
theorem eX11_needsOf_13 : zd 1 cX11_needsOf 13 14 (.iaload) := ⟨by decide +kernel, rfl⟩
theorem eX11_needsOf_14 : zd 1 cX11_needsOf 14 15 (.iaload) := ⟨by decide +kernel, rfl⟩
theorem eX11_needsOf_15 : zd 1 cX11_needsOf 15 16 (.i2l) := ⟨by decide +kernel, rfl⟩
theorem eX11_needsOf_16 : zd 1 cX11_needsOf 16 17 (.aload_n 0) := ⟨by decide +kernel, rfl⟩
theorem eX11_needsOf_17 : zd 1 cX11_needsOf 17 18 (.aload_n 0) := ⟨by decide +kernel, rfl⟩
theorem eX11_needsOf_18 : zd 3 cX11_needsOf 18 21 (.getfield 29) := ⟨by decide +kernel, rfl⟩
theorem eX11_needsOf_21 : zd 1 cX11_needsOf 21 22 (.iconst 4) := ⟨by decide +kernel, rfl⟩
theorem eX11_needsOf_22 : zd 1 cX11_needsOf 22 23 (.iload_n 1) := ⟨by decide +kernel, rfl⟩
theorem eX11_needsOf_23 : zd 1 cX11_needsOf 23 24 (.imul) := ⟨by decide +kernel, rfl⟩
theorem eX11_needsOf_24 : zd 1 cX11_needsOf 24 25 (.iconst 1) := ⟨by decide +kernel, rfl⟩
theorem eX11_needsOf_25 : zd 1 cX11_needsOf 25 26 (.iadd) := ⟨by decide +kernel, rfl⟩
theorem eX11_needsOf_26 : zd 1 cX11_needsOf 26 27 (.iaload) := ⟨by decide +kernel, rfl⟩
theorem eX11_needsOf_27 : zd 3 cX11_needsOf 27 30 (.invokevirtual 218) := ⟨by decide +kernel, rfl⟩
theorem eX11_needsOf_30 : zd 1 cX11_needsOf 30 31 (.lsub) := ⟨by decide +kernel, rfl⟩
theorem eX11_needsOf_31 : zd 2 cX11_needsOf 31 33 (.lstore 4) := ⟨by decide +kernel, rfl⟩
theorem eX11_needsOf_33 : zd 1 cX11_needsOf 33 34 (.iload_n 3) := ⟨by decide +kernel, rfl⟩
theorem eX11_needsOf_34 : zd 1 cX11_needsOf 34 35 (.aload_n 0) := ⟨by decide +kernel, rfl⟩
theorem eX11_needsOf_35 : zd 3 cX11_needsOf 35 38 (.getfield 22) := ⟨by decide +kernel, rfl⟩
theorem eX11_needsOf_38 : zd 1 cX11_needsOf 38 39 (.iload_n 2) := ⟨by decide +kernel, rfl⟩
theorem eX11_needsOf_39 : zd 1 cX11_needsOf 39 40 (.iaload) := ⟨by decide +kernel, rfl⟩
theorem eX11_needsOf_40 : zd 1 cX11_needsOf 40 41 (.iadd) := ⟨by decide +kernel, rfl⟩
theorem eX11_needsOf_41 : zd 1 cX11_needsOf 41 42 (.i2l) := ⟨by decide +kernel, rfl⟩
theorem eX11_needsOf_42 : zd 3 cX11_needsOf 42 45 (.ldc2_w 241) := ⟨by decide +kernel, rfl⟩
theorem eX11_needsOf_45 : zd 1 cX11_needsOf 45 46 (.lsub) := ⟨by decide +kernel, rfl⟩
theorem eX11_needsOf_46 : zd 2 cX11_needsOf 46 48 (.lstore 6) := ⟨by decide +kernel, rfl⟩
theorem eX11_needsOf_48 : zd 2 cX11_needsOf 48 50 (.lload 4) := ⟨by decide +kernel, rfl⟩
theorem eX11_needsOf_50 : zd 2 cX11_needsOf 50 52 (.lload 4) := ⟨by decide +kernel, rfl⟩
theorem eX11_needsOf_52 : zd 1 cX11_needsOf 52 53 (.lmul) := ⟨by decide +kernel, rfl⟩
theorem eX11_needsOf_53 : zd 2 cX11_needsOf 53 55 (.lload 6) := ⟨by decide +kernel, rfl⟩
theorem eX11_needsOf_55 : zd 2 cX11_needsOf 55 57 (.lload 6) := ⟨by decide +kernel, rfl⟩
theorem eX11_needsOf_57 : zd 1 cX11_needsOf 57 58 (.lmul) := ⟨by decide +kernel, rfl⟩
theorem eX11_needsOf_58 : zd 1 cX11_needsOf 58 59 (.ladd) := ⟨by decide +kernel, rfl⟩
theorem eX11_needsOf_59 : zd 3 cX11_needsOf 59 62 (.invokestatic 224) := ⟨by decide +kernel, rfl⟩
theorem eX11_needsOf_62 : zd 1 cX11_needsOf 62 63 (.lreturn) := ⟨by decide +kernel, rfl⟩
theorem FX11_22 : zlF RX11 22 11 7 := ⟨(RX11, TX11, 34), rfl, by decide, q1078, zin11⟩
noncomputable def f_Mo_needsOf (v0 : tMo) (p1 : Int32) (p2 : Int32) (p3 : Int32) : Option (Int64) := (if inb ((4 * p1) + 2) 24 = true then (if inb ((gMo_lines v0) (ix ((4 * p1) + 2))) 12 = true then (if inb ((4 * p1) + 1) 24 = true then (zlet (((gMo_postX v0) (ix ((gMo_lines v0) (ix ((4 * p1) + 2))))).toInt64 - (f_Mo_along v0 ((gMo_lines v0) (ix ((4 * p1) + 1))))) (fun (z4 : Int64) => (if inb p2 24 = true then (zlet ((p3 + ((gMo_heights v0) (ix p2))).toInt64 - 300) (fun (z6 : Int64) => (Option.bind (f_Mo_root ((z4 * z4) + (z6 * z6))) (fun (r7 : Int64) => (some r7))))) else none))) else none) else none) else none)
abbrev rm_Mo_needsOf : Room := { frames := 2, cells := 0, slots := 0, locals := 42 }
set_option maxHeartbeats 4000000 in
set_option maxRecDepth 100000 in
theorem c_Mo_needsOf (l : Launch) (g : zGl) (a0 : Nat → Nat) (o0 : Nat) (v0 : tMo) (p1 : Int32) (p2 : Int32) (p3 : Int32) (out : Int64) (hf : f_Mo_needsOf v0 p1 p2 p3 = some out) : zMl l yX11_needsOf cX11_needsOf 8 rm_Mo_needsOf g [.ref (a0 o0), .int p1, .int p2, .int p3] (W_Mo g a0 o0 (gMo_ints v0) (gMo_told v0) (gMo_postX v0) (gMo_postStrong v0) (gMo_atRow v0) (gMo_heights v0) (gMo_ship v0) (gMo_lines v0) (gMo_text v0) (gMo_said v0) (gMo_readTold v0) (gMo_readX v0) (gMo_readStrong v0) (gMo_readRow v0) (gMo_parting v0) (gMo_wasShip v0) (gMo_wasLines v0) (gMo_worst v0) (gMo_logRow v0) (gMo_images v0) (gMo_isKept v0)) out (W_Mo g a0 o0 (gMo_ints v0) (gMo_told v0) (gMo_postX v0) (gMo_postStrong v0) (gMo_atRow v0) (gMo_heights v0) (gMo_ship v0) (gMo_lines v0) (gMo_text v0) (gMo_said v0) (gMo_readTold v0) (gMo_readX v0) (gMo_readStrong v0) (gMo_readRow v0) (gMo_parting v0) (gMo_wasShip v0) (gMo_wasLines v0) (gMo_worst v0) (gMo_logRow v0) (gMo_images v0) (gMo_isKept v0)) := by
  refine zMl_of (lv := [(0, .ref (a0 o0)), (1, .int p1), (2, .int p2), (3, .int p3)]) (by decide) (Nat.le_of_ble_eq_true rfl) rfl (fun x hl hg C hret => ?_)
  subst hl; subst hg
  rw [f_Mo_needsOf] at hf
  refine r_aload_n C eX11_needsOf_0 0 rfl rfl ?_
  refine r_get (v := .ref (a0 (o0 + 2))) C eX11_needsOf_1 FX11_13 0 rfl rfl ?_
  refine r_aload_n C eX11_needsOf_4 0 rfl rfl ?_
  refine r_get (v := .ref (a0 (o0 + 7))) C eX11_needsOf_5 FX11_29 0 rfl rfl ?_
  refine r_iconst C (v := 4) eX11_needsOf_8 (by decide) ?_
  refine r_iload_n C eX11_needsOf_9 1 rfl rfl ?_
  refine r_imul C eX11_needsOf_10 ?_
  refine r_iconst C (v := 2) eX11_needsOf_11 (by decide) ?_
  refine r_iadd C eX11_needsOf_12 ?_
  obtain ⟨hb1, hf⟩ := zchk hf
  refine r_iald C eX11_needsOf_13 7 rfl (inb_in hb1) ((gMo_lines v0) (ix ((4 * p1) + 2))) rfl ?_
  obtain ⟨hb2, hf⟩ := zchk hf
  refine r_iald C eX11_needsOf_14 2 rfl (inb_in hb2) ((gMo_postX v0) (ix ((gMo_lines v0) (ix ((4 * p1) + 2))))) rfl ?_
  refine r_i2l C eX11_needsOf_15 ?_
  refine r_aload_n C eX11_needsOf_16 0 rfl rfl ?_
  refine r_aload_n C eX11_needsOf_17 0 rfl rfl ?_
  refine r_get (v := .ref (a0 (o0 + 7))) C eX11_needsOf_18 FX11_29 0 rfl rfl ?_
  refine r_iconst C (v := 4) eX11_needsOf_21 (by decide) ?_
  refine r_iload_n C eX11_needsOf_22 1 rfl rfl ?_
  refine r_imul C eX11_needsOf_23 ?_
  refine r_iconst C (v := 1) eX11_needsOf_24 (by decide) ?_
  refine r_iadd C eX11_needsOf_25 ?_
  obtain ⟨hb3, hf⟩ := zchk hf
  refine r_iald C eX11_needsOf_26 7 rfl (inb_in hb3) ((gMo_lines v0) (ix ((4 * p1) + 1))) rfl ?_
  refine r_V_l (ws' := W_Mo (z_g x) a0 o0 (gMo_ints v0) (gMo_told v0) (gMo_postX v0) (gMo_postStrong v0) (gMo_atRow v0) (gMo_heights v0) (gMo_ship v0) (gMo_lines v0) (gMo_text v0) (gMo_said v0) (gMo_readTold v0) (gMo_readX v0) (gMo_readStrong v0) (gMo_readRow v0) (gMo_parting v0) (gMo_wasShip v0) (gMo_wasLines v0) (gMo_worst v0) (gMo_logRow v0) (gMo_images v0) (gMo_isKept v0)) C (c_Mo_along (z_l x) (z_g x) a0 o0 v0 ((gMo_lines v0) (ix ((4 * p1) + 1))) _ rfl) eX11_needsOf_27 MX11_218 ⟨0, 11, _, _, rfl, rfl, rfl⟩ [0, 1, 2, 3, 4, 5, 6, 7, 8, 9, 10, 11, 12, 13, 14, 15, 16, 17, 18, 19] rfl rfl rfl rfl [] rfl trivial 20 rfl rfl rfl rfl rfl rfl ?_
  refine r_lsub C eX11_needsOf_30 ?_
  obtain ⟨z4, hz4, hf⟩ := zlet_of hf
  refine r_naml hz4 ?_
  refine r_lstore C [(4, .long z4), (0, .ref (a0 o0)), (1, .int p1), (2, .int p2), (3, .int p3)] eX11_needsOf_31 (by decide) rfl ?_
  refine r_iload_n C eX11_needsOf_33 4 rfl rfl ?_
  refine r_aload_n C eX11_needsOf_34 1 rfl rfl ?_
  refine r_get (v := .ref (a0 (o0 + 5))) C eX11_needsOf_35 FX11_22 0 rfl rfl ?_
  refine r_iload_n C eX11_needsOf_38 3 rfl rfl ?_
  obtain ⟨hb5, hf⟩ := zchk hf
  refine r_iald C eX11_needsOf_39 5 rfl (inb_in hb5) ((gMo_heights v0) (ix p2)) rfl ?_
  refine r_iadd C eX11_needsOf_40 ?_
  refine r_i2l C eX11_needsOf_41 ?_
  refine r_ldc2 C (v := 300) eX11_needsOf_42 q1325 ?_
  refine r_lsub C eX11_needsOf_45 ?_
  obtain ⟨z6, hz6, hf⟩ := zlet_of hf
  refine r_naml hz6 ?_
  refine r_lstore C [(6, .long z6), (4, .long z4), (0, .ref (a0 o0)), (1, .int p1), (2, .int p2), (3, .int p3)] eX11_needsOf_46 (by decide) rfl ?_
  refine r_lload C eX11_needsOf_48 1 rfl ?_
  refine r_lload C eX11_needsOf_50 1 rfl ?_
  refine r_lmul C eX11_needsOf_52 ?_
  refine r_lload C eX11_needsOf_53 0 rfl ?_
  refine r_lload C eX11_needsOf_55 0 rfl ?_
  refine r_lmul C eX11_needsOf_57 ?_
  refine r_ladd C eX11_needsOf_58 ?_
  obtain ⟨r7, hr7, hf⟩ := zbind hf
  refine r_S_l (ws' := W_Mo (z_g x) a0 o0 (gMo_ints v0) (gMo_told v0) (gMo_postX v0) (gMo_postStrong v0) (gMo_atRow v0) (gMo_heights v0) (gMo_ship v0) (gMo_lines v0) (gMo_text v0) (gMo_said v0) (gMo_readTold v0) (gMo_readX v0) (gMo_readStrong v0) (gMo_readRow v0) (gMo_parting v0) (gMo_wasShip v0) (gMo_wasLines v0) (gMo_worst v0) (gMo_logRow v0) (gMo_images v0) (gMo_isKept v0)) C (c_Mo_root (z_l x) (z_g x)  ((z4 * z4) + (z6 * z6)) r7 hr7) eX11_needsOf_59 MX11_224 [] rfl rfl rfl rfl [0, 1, 2, 3, 4, 5, 6, 7, 8, 9, 10, 11, 12, 13, 14, 15, 16, 17, 18, 19] rfl ⟨rfl, rfl, rfl, rfl, rfl, rfl, rfl, rfl, rfl, rfl, rfl, rfl, rfl, rfl, rfl, rfl, rfl, rfl, rfl, rfl, trivial⟩ 20 rfl rfl rfl rfl rfl rfl ?_
  obtain rfl := Option.some.inj (show some (r7 : Int64) = some _ from hf)
  exact hret _ _ _ eX11_needsOf_62
theorem eX11_needs_0 : zd 1 cX11_needs 0 1 (.aload_n 0) := ⟨by decide +kernel, rfl⟩
theorem eX11_needs_1 : zd 1 cX11_needs 1 2 (.iload_n 1) := ⟨by decide +kernel, rfl⟩
theorem eX11_needs_2 : zd 3 cX11_needs 2 5 (.invokevirtual 243) := ⟨by decide +kernel, rfl⟩
theorem eX11_needs_5 : zdi cX11_needs 5 8 24 (.ifCond .eq) := ⟨19, by decide +kernel, rfl, by decide⟩
theorem eX11_needs_8 : zd 1 cX11_needs 8 9 (.iload_n 2) := ⟨by decide +kernel, rfl⟩
theorem eX11_needs_9 : zd 1 cX11_needs 9 10 (.i2l) := ⟨by decide +kernel, rfl⟩
theorem eX11_needs_10 : zd 1 cX11_needs 10 11 (.lconst 0) := ⟨by decide +kernel, rfl⟩
theorem eX11_needs_11 : zd 1 cX11_needs 11 12 (.aload_n 0) := ⟨by decide +kernel, rfl⟩
theorem eX11_needs_12 : zd 3 cX11_needs 12 15 (.getfield 193) := ⟨by decide +kernel, rfl⟩
theorem eX11_needs_15 : zd 1 cX11_needs 15 16 (.iconst 1) := ⟨by decide +kernel, rfl⟩
theorem eX11_needs_16 : zd 1 cX11_needs 16 17 (.isub) := ⟨by decide +kernel, rfl⟩
theorem eX11_needs_17 : zd 1 cX11_needs 17 18 (.i2l) := ⟨by decide +kernel, rfl⟩
theorem eX11_needs_18 : zd 3 cX11_needs 18 21 (.invokestatic 86) := ⟨by decide +kernel, rfl⟩
theorem eX11_needs_21 : zdi cX11_needs 21 24 27 (.ifCond .ne) := ⟨6, by decide +kernel, rfl, by decide⟩
theorem eX11_needs_24 : zd 2 cX11_needs 24 26 (.ldc 202) := ⟨by decide +kernel, rfl⟩
theorem eX11_needs_26 : zd 1 cX11_needs 26 27 (.ireturn) := ⟨by decide +kernel, rfl⟩
theorem eX11_needs_27 : zd 1 cX11_needs 27 28 (.iload_n 3) := ⟨by decide +kernel, rfl⟩
theorem eX11_needs_28 : zd 3 cX11_needs 28 31 (.invokestatic 381) := ⟨by decide +kernel, rfl⟩
theorem eX11_needs_31 : zdi cX11_needs 31 34 45 (.ifCond .eq) := ⟨14, by decide +kernel, rfl, by decide⟩
theorem eX11_needs_34 : zd 1 cX11_needs 34 35 (.aload_n 0) := ⟨by decide +kernel, rfl⟩
theorem eX11_needs_35 : zd 1 cX11_needs 35 36 (.iload_n 1) := ⟨by decide +kernel, rfl⟩
theorem eX11_needs_36 : zd 1 cX11_needs 36 37 (.iload_n 2) := ⟨by decide +kernel, rfl⟩
theorem eX11_needs_37 : zd 1 cX11_needs 37 38 (.iload_n 3) := ⟨by decide +kernel, rfl⟩
theorem eX11_needs_38 : zd 3 cX11_needs 38 41 (.invokevirtual 384) := ⟨by decide +kernel, rfl⟩
theorem eX11_needs_41 : zd 1 cX11_needs 41 42 (.l2i) := ⟨by decide +kernel, rfl⟩
theorem eX11_needs_42 : zdi cX11_needs 42 45 47 (.goto) := ⟨5, by decide +kernel, rfl, by decide⟩
theorem eX11_needs_45 : zd 2 cX11_needs 45 47 (.ldc 90) := ⟨by decide +kernel, rfl⟩
theorem eX11_needs_47 : zd 1 cX11_needs 47 48 (.ireturn) := ⟨by decide +kernel, rfl⟩
theorem FX11_193 : zlF RX11 193 11 6 := ⟨(RX11, TX11, 34), rfl, by decide, q1077, zin11⟩
theorem MX11_381 : zlS RX11 381 yX11_isDeck cX11_isDeck 1 ((Option.some FieldType.boolean)) 1 := ⟨q1510, q1511, q12, q1512, by decide, by decide, by decide +kernel⟩
theorem MX11_384 : zlV RX11 384 yX11_needsOf cX11_needsOf 8 ((Option.some FieldType.long)) 3 := ⟨q1514, q1516, qs64, q12, q1517, by decide, by decide, by decide +kernel⟩
noncomputable def f_Mo_needs (v0 : tMo) (p1 : Int32) (p2 : Int32) (p3 : Int32) : Option (Int32) := (Option.bind (f_Mo_isFast v0 p1) (fun (r1 : Int32) => (if r1 = 0 then (some (-1000000001)) else (if (f_Mo_in p2.toInt64 0 (((gMo_ints v0) 6) - 1).toInt64) = 0 then (some (-1000000001)) else (if (f_Mo_isDeck p3) = 0 then (some (-1000000002)) else (Option.bind (f_Mo_needsOf v0 p1 p2 p3) (fun (r8 : Int64) => (some r8.toInt32))))))))
abbrev rm_Mo_needs : Room := { frames := 3, cells := 0, slots := 0, locals := 69 }
set_option maxHeartbeats 4000000 in
set_option maxRecDepth 100000 in
theorem c_Mo_needs (l : Launch) (g : zGl) (a0 : Nat → Nat) (o0 : Nat) (v0 : tMo) (p1 : Int32) (p2 : Int32) (p3 : Int32) (out : Int32) (hf : f_Mo_needs v0 p1 p2 p3 = some out) : zMi l yX11_needs cX11_needs 4 rm_Mo_needs g [.ref (a0 o0), .int p1, .int p2, .int p3] (W_Mo g a0 o0 (gMo_ints v0) (gMo_told v0) (gMo_postX v0) (gMo_postStrong v0) (gMo_atRow v0) (gMo_heights v0) (gMo_ship v0) (gMo_lines v0) (gMo_text v0) (gMo_said v0) (gMo_readTold v0) (gMo_readX v0) (gMo_readStrong v0) (gMo_readRow v0) (gMo_parting v0) (gMo_wasShip v0) (gMo_wasLines v0) (gMo_worst v0) (gMo_logRow v0) (gMo_images v0) (gMo_isKept v0)) out (W_Mo g a0 o0 (gMo_ints v0) (gMo_told v0) (gMo_postX v0) (gMo_postStrong v0) (gMo_atRow v0) (gMo_heights v0) (gMo_ship v0) (gMo_lines v0) (gMo_text v0) (gMo_said v0) (gMo_readTold v0) (gMo_readX v0) (gMo_readStrong v0) (gMo_readRow v0) (gMo_parting v0) (gMo_wasShip v0) (gMo_wasLines v0) (gMo_worst v0) (gMo_logRow v0) (gMo_images v0) (gMo_isKept v0)) := by
  refine zMi_of (lv := [(0, .ref (a0 o0)), (1, .int p1), (2, .int p2), (3, .int p3)]) (by decide) (Nat.le_of_ble_eq_true rfl) rfl (fun x hl hg C hret => ?_)
  subst hl; subst hg
  rw [f_Mo_needs] at hf
  refine r_aload_n C eX11_needs_0 0 rfl rfl ?_
  refine r_iload_n C eX11_needs_1 1 rfl rfl ?_
  obtain ⟨r1, hr1, hf⟩ := zbind hf
  refine r_V_z (ws' := W_Mo (z_g x) a0 o0 (gMo_ints v0) (gMo_told v0) (gMo_postX v0) (gMo_postStrong v0) (gMo_atRow v0) (gMo_heights v0) (gMo_ship v0) (gMo_lines v0) (gMo_text v0) (gMo_said v0) (gMo_readTold v0) (gMo_readX v0) (gMo_readStrong v0) (gMo_readRow v0) (gMo_parting v0) (gMo_wasShip v0) (gMo_wasLines v0) (gMo_worst v0) (gMo_logRow v0) (gMo_images v0) (gMo_isKept v0)) C (c_Mo_isFast (z_l x) (z_g x) a0 o0 v0 p1 r1 hr1) eX11_needs_2 MX11_243 ⟨0, 11, _, _, rfl, rfl, rfl⟩ [0, 1, 2, 3, 4, 5, 6, 7, 8, 9, 10, 11, 12, 13, 14, 15, 16, 17, 18, 19] rfl rfl rfl rfl [] rfl trivial 20 rfl rfl rfl rfl rfl rfl (fun zb2 => ?_)
  refine r_if_eq C eX11_needs_5 (fun c3 => ?_) (fun c3 => ?_)
  · rw [if_pos c3] at hf
    refine r_ldc C (v := (-1000000001)) eX11_needs_24 q1276 ?_
    obtain rfl := Option.some.inj (show some ((-1000000001) : Int32) = some _ from hf)
    exact hret _ _ _ eX11_needs_26
  · rw [if_neg c3] at hf
    refine r_iload_n C eX11_needs_8 2 rfl rfl ?_
    refine r_i2l C eX11_needs_9 ?_
    refine r_lconst C (v := 0) eX11_needs_10 (by decide) ?_
    refine r_aload_n C eX11_needs_11 0 rfl rfl ?_
    refine r_get (v := .int ((gMo_ints v0) 6)) C eX11_needs_12 FX11_193 0 rfl rfl ?_
    refine r_iconst C (v := 1) eX11_needs_15 (by decide) ?_
    refine r_isub C eX11_needs_16 ?_
    refine r_i2l C eX11_needs_17 ?_
    refine r_S_z (ws' := W_Mo (z_g x) a0 o0 (gMo_ints v0) (gMo_told v0) (gMo_postX v0) (gMo_postStrong v0) (gMo_atRow v0) (gMo_heights v0) (gMo_ship v0) (gMo_lines v0) (gMo_text v0) (gMo_said v0) (gMo_readTold v0) (gMo_readX v0) (gMo_readStrong v0) (gMo_readRow v0) (gMo_parting v0) (gMo_wasShip v0) (gMo_wasLines v0) (gMo_worst v0) (gMo_logRow v0) (gMo_images v0) (gMo_isKept v0)) C (c_Mo_in (z_l x) (z_g x)  p2.toInt64 0 (((gMo_ints v0) 6) - 1).toInt64 _ rfl) eX11_needs_18 MX11_86 [] rfl rfl rfl rfl [0, 1, 2, 3, 4, 5, 6, 7, 8, 9, 10, 11, 12, 13, 14, 15, 16, 17, 18, 19] rfl ⟨rfl, rfl, rfl, rfl, rfl, rfl, rfl, rfl, rfl, rfl, rfl, rfl, rfl, rfl, rfl, rfl, rfl, rfl, rfl, rfl, trivial⟩ 20 rfl rfl rfl rfl rfl rfl (fun zb4 => ?_)
    refine r_if_ne C eX11_needs_21 (fun c5 => ?_) (fun c5 => ?_)
    · rw [if_neg c5] at hf
      refine r_iload_n C eX11_needs_27 3 rfl rfl ?_
      refine r_S_z (ws' := W_Mo (z_g x) a0 o0 (gMo_ints v0) (gMo_told v0) (gMo_postX v0) (gMo_postStrong v0) (gMo_atRow v0) (gMo_heights v0) (gMo_ship v0) (gMo_lines v0) (gMo_text v0) (gMo_said v0) (gMo_readTold v0) (gMo_readX v0) (gMo_readStrong v0) (gMo_readRow v0) (gMo_parting v0) (gMo_wasShip v0) (gMo_wasLines v0) (gMo_worst v0) (gMo_logRow v0) (gMo_images v0) (gMo_isKept v0)) C (c_Mo_isDeck (z_l x) (z_g x)  p3 _ rfl) eX11_needs_28 MX11_381 [] rfl rfl rfl rfl [0, 1, 2, 3, 4, 5, 6, 7, 8, 9, 10, 11, 12, 13, 14, 15, 16, 17, 18, 19] rfl ⟨rfl, rfl, rfl, rfl, rfl, rfl, rfl, rfl, rfl, rfl, rfl, rfl, rfl, rfl, rfl, rfl, rfl, rfl, rfl, rfl, trivial⟩ 20 rfl rfl rfl rfl rfl rfl (fun zb6 => ?_)
      refine r_if_eq C eX11_needs_31 (fun c7 => ?_) (fun c7 => ?_)
      · rw [if_pos c7] at hf
        refine r_ldc C (v := (-1000000002)) eX11_needs_45 q1183 ?_
        obtain rfl := Option.some.inj (show some ((-1000000002) : Int32) = some _ from hf)
        exact hret _ _ _ eX11_needs_47
      · rw [if_neg c7] at hf
        refine r_aload_n C eX11_needs_34 0 rfl rfl ?_
        refine r_iload_n C eX11_needs_35 1 rfl rfl ?_
        refine r_iload_n C eX11_needs_36 2 rfl rfl ?_
        refine r_iload_n C eX11_needs_37 3 rfl rfl ?_
        obtain ⟨r8, hr8, hf⟩ := zbind hf
        refine r_V_l (ws' := W_Mo (z_g x) a0 o0 (gMo_ints v0) (gMo_told v0) (gMo_postX v0) (gMo_postStrong v0) (gMo_atRow v0) (gMo_heights v0) (gMo_ship v0) (gMo_lines v0) (gMo_text v0) (gMo_said v0) (gMo_readTold v0) (gMo_readX v0) (gMo_readStrong v0) (gMo_readRow v0) (gMo_parting v0) (gMo_wasShip v0) (gMo_wasLines v0) (gMo_worst v0) (gMo_logRow v0) (gMo_images v0) (gMo_isKept v0)) C (c_Mo_needsOf (z_l x) (z_g x) a0 o0 v0 p1 p2 p3 r8 hr8) eX11_needs_38 MX11_384 ⟨0, 11, _, _, rfl, rfl, rfl⟩ [0, 1, 2, 3, 4, 5, 6, 7, 8, 9, 10, 11, 12, 13, 14, 15, 16, 17, 18, 19] rfl rfl rfl rfl [] rfl trivial 20 rfl rfl rfl rfl rfl rfl ?_
        refine r_l2i C eX11_needs_41 ?_
        refine r_goto C eX11_needs_42 ?_
        obtain rfl := Option.some.inj (show some (r8.toInt32 : Int32) = some _ from hf)
        exact hret _ _ _ eX11_needs_47
    · rw [if_pos c5] at hf
      refine r_ldc C (v := (-1000000001)) eX11_needs_24 q1276 ?_
      obtain rfl := Option.some.inj (show some ((-1000000001) : Int32) = some _ from hf)
      exact hret _ _ _ eX11_needs_26
theorem eX11_nowOf_0 : zd 1 cX11_nowOf 0 1 (.iload_n 1) := ⟨by decide +kernel, rfl⟩
theorem eX11_nowOf_1 : zd 1 cX11_nowOf 1 2 (.i2l) := ⟨by decide +kernel, rfl⟩
theorem eX11_nowOf_2 : zd 1 cX11_nowOf 2 3 (.lconst 0) := ⟨by decide +kernel, rfl⟩
theorem eX11_nowOf_3 : zd 3 cX11_nowOf 3 6 (.ldc2_w 196) := ⟨by decide +kernel, rfl⟩
theorem eX11_nowOf_6 : zd 3 cX11_nowOf 6 9 (.invokestatic 86) := ⟨by decide +kernel, rfl⟩
theorem eX11_nowOf_9 : zdi cX11_nowOf 9 12 21 (.ifCond .eq) := ⟨12, by decide +kernel, rfl, by decide⟩
theorem eX11_nowOf_12 : zd 1 cX11_nowOf 12 13 (.aload_n 0) := ⟨by decide +kernel, rfl⟩
theorem eX11_nowOf_13 : zd 3 cX11_nowOf 13 16 (.getfield 25) := ⟨by decide +kernel, rfl⟩
theorem eX11_nowOf_16 : zd 1 cX11_nowOf 16 17 (.iload_n 1) := ⟨by decide +kernel, rfl⟩
theorem eX11_nowOf_17 : zd 1 cX11_nowOf 17 18 (.laload) := ⟨by decide +kernel, rfl⟩
theorem eX11_nowOf_18 : zdi cX11_nowOf 18 21 77 (.goto) := ⟨59, by decide +kernel, rfl, by decide⟩
theorem eX11_nowOf_21 : zd 1 cX11_nowOf 21 22 (.iload_n 1) := ⟨by decide +kernel, rfl⟩
theorem eX11_nowOf_22 : zd 2 cX11_nowOf 22 24 (.bipush 13) := ⟨by decide +kernel, rfl⟩
theorem eX11_nowOf_24 : zdi cX11_nowOf 24 27 36 (.if_icmp .ne) := ⟨12, by decide +kernel, rfl, by decide⟩
theorem eX11_nowOf_27 : zd 1 cX11_nowOf 27 28 (.aload_n 0) := ⟨by decide +kernel, rfl⟩
theorem eX11_nowOf_28 : zd 2 cX11_nowOf 28 30 (.bipush 100) := ⟨by decide +kernel, rfl⟩
theorem eX11_nowOf_30 : zd 3 cX11_nowOf 30 33 (.invokevirtual 221) := ⟨by decide +kernel, rfl⟩
theorem eX11_nowOf_33 : zdi cX11_nowOf 33 36 77 (.goto) := ⟨44, by decide +kernel, rfl, by decide⟩
theorem eX11_nowOf_36 : zd 1 cX11_nowOf 36 37 (.iload_n 1) := ⟨by decide +kernel, rfl⟩
theorem eX11_nowOf_37 : zd 2 cX11_nowOf 37 39 (.bipush 14) := ⟨by decide +kernel, rfl⟩
theorem eX11_nowOf_39 : zdi cX11_nowOf 39 42 51 (.if_icmp .ne) := ⟨12, by decide +kernel, rfl, by decide⟩
theorem eX11_nowOf_42 : zd 1 cX11_nowOf 42 43 (.aload_n 0) := ⟨by decide +kernel, rfl⟩
theorem eX11_nowOf_43 : zd 2 cX11_nowOf 43 45 (.bipush (-100)) := ⟨by decide +kernel, rfl⟩
theorem eX11_nowOf_45 : zd 3 cX11_nowOf 45 48 (.invokevirtual 221) := ⟨by decide +kernel, rfl⟩
theorem eX11_nowOf_48 : zdi cX11_nowOf 48 51 77 (.goto) := ⟨29, by decide +kernel, rfl, by decide⟩
theorem eX11_nowOf_51 : zd 1 cX11_nowOf 51 52 (.iload_n 1) := ⟨by decide +kernel, rfl⟩
theorem eX11_nowOf_52 : zd 2 cX11_nowOf 52 54 (.bipush 15) := ⟨by decide +kernel, rfl⟩
theorem eX11_nowOf_54 : zdi cX11_nowOf 54 57 72 (.if_icmp .ne) := ⟨18, by decide +kernel, rfl, by decide⟩
theorem eX11_nowOf_57 : zd 1 cX11_nowOf 57 58 (.aload_n 0) := ⟨by decide +kernel, rfl⟩
theorem eX11_nowOf_58 : zd 3 cX11_nowOf 58 61 (.invokevirtual 296) := ⟨by decide +kernel, rfl⟩
theorem eX11_nowOf_61 : zdi cX11_nowOf 61 64 68 (.ifCond .eq) := ⟨7, by decide +kernel, rfl, by decide⟩
theorem eX11_nowOf_64 : zd 1 cX11_nowOf 64 65 (.lconst 1) := ⟨by decide +kernel, rfl⟩
theorem eX11_nowOf_65 : zdi cX11_nowOf 65 68 77 (.goto) := ⟨12, by decide +kernel, rfl, by decide⟩
theorem eX11_nowOf_68 : zd 1 cX11_nowOf 68 69 (.lconst 0) := ⟨by decide +kernel, rfl⟩
theorem eX11_nowOf_69 : zdi cX11_nowOf 69 72 77 (.goto) := ⟨8, by decide +kernel, rfl, by decide⟩
theorem eX11_nowOf_72 : zd 1 cX11_nowOf 72 73 (.aload_n 0) := ⟨by decide +kernel, rfl⟩
theorem eX11_nowOf_73 : zd 3 cX11_nowOf 73 76 (.invokevirtual 300) := ⟨by decide +kernel, rfl⟩
theorem eX11_nowOf_76 : zd 1 cX11_nowOf 76 77 (.i2l) := ⟨by decide +kernel, rfl⟩
theorem eX11_nowOf_77 : zd 1 cX11_nowOf 77 78 (.lreturn) := ⟨by decide +kernel, rfl⟩
theorem MX11_300 : zlV RX11 300 yX11_fastMany cX11_fastMany 3 ((Option.some FieldType.int)) 0 := ⟨q1330, q1332, qs44, q12, q1333, by decide, by decide, by decide +kernel⟩
noncomputable def f_Mo_nowOf (v0 : tMo) (p1 : Int32) : Option (Int64) := (if (f_Mo_in p1.toInt64 0 12) = 0 then (if p1 = 13 then (some (f_Mo_offOf v0 100)) else (if p1 = 14 then (some (f_Mo_offOf v0 (-100))) else (if p1 = 15 then (if (f_Mo_isSafe v0) = 0 then (some 0) else (some 1)) else (Option.bind (f_Mo_fastMany v0) (fun (r8 : Int32) => (some r8.toInt64)))))) else (if inb p1 13 = true then (some ((gMo_ship v0) (ix p1))) else none))
abbrev rm_Mo_nowOf : Room := { frames := 4, cells := 0, slots := 0, locals := 87 }
set_option maxHeartbeats 4000000 in
set_option maxRecDepth 100000 in
theorem c_Mo_nowOf (l : Launch) (g : zGl) (a0 : Nat → Nat) (o0 : Nat) (v0 : tMo) (p1 : Int32) (out : Int64) (hf : f_Mo_nowOf v0 p1 = some out) : zMl l yX11_nowOf cX11_nowOf 2 rm_Mo_nowOf g [.ref (a0 o0), .int p1] (W_Mo g a0 o0 (gMo_ints v0) (gMo_told v0) (gMo_postX v0) (gMo_postStrong v0) (gMo_atRow v0) (gMo_heights v0) (gMo_ship v0) (gMo_lines v0) (gMo_text v0) (gMo_said v0) (gMo_readTold v0) (gMo_readX v0) (gMo_readStrong v0) (gMo_readRow v0) (gMo_parting v0) (gMo_wasShip v0) (gMo_wasLines v0) (gMo_worst v0) (gMo_logRow v0) (gMo_images v0) (gMo_isKept v0)) out (W_Mo g a0 o0 (gMo_ints v0) (gMo_told v0) (gMo_postX v0) (gMo_postStrong v0) (gMo_atRow v0) (gMo_heights v0) (gMo_ship v0) (gMo_lines v0) (gMo_text v0) (gMo_said v0) (gMo_readTold v0) (gMo_readX v0) (gMo_readStrong v0) (gMo_readRow v0) (gMo_parting v0) (gMo_wasShip v0) (gMo_wasLines v0) (gMo_worst v0) (gMo_logRow v0) (gMo_images v0) (gMo_isKept v0)) := by
  refine zMl_of (lv := [(0, .ref (a0 o0)), (1, .int p1)]) (by decide) (Nat.le_of_ble_eq_true rfl) rfl (fun x hl hg C hret => ?_)
  subst hl; subst hg
  rw [f_Mo_nowOf] at hf
  refine r_iload_n C eX11_nowOf_0 1 rfl rfl ?_
  refine r_i2l C eX11_nowOf_1 ?_
  refine r_lconst C (v := 0) eX11_nowOf_2 (by decide) ?_
  refine r_ldc2 C (v := 12) eX11_nowOf_3 q1267 ?_
  refine r_S_z (ws' := W_Mo (z_g x) a0 o0 (gMo_ints v0) (gMo_told v0) (gMo_postX v0) (gMo_postStrong v0) (gMo_atRow v0) (gMo_heights v0) (gMo_ship v0) (gMo_lines v0) (gMo_text v0) (gMo_said v0) (gMo_readTold v0) (gMo_readX v0) (gMo_readStrong v0) (gMo_readRow v0) (gMo_parting v0) (gMo_wasShip v0) (gMo_wasLines v0) (gMo_worst v0) (gMo_logRow v0) (gMo_images v0) (gMo_isKept v0)) C (c_Mo_in (z_l x) (z_g x)  p1.toInt64 0 12 _ rfl) eX11_nowOf_6 MX11_86 [] rfl rfl rfl rfl [0, 1, 2, 3, 4, 5, 6, 7, 8, 9, 10, 11, 12, 13, 14, 15, 16, 17, 18, 19] rfl ⟨rfl, rfl, rfl, rfl, rfl, rfl, rfl, rfl, rfl, rfl, rfl, rfl, rfl, rfl, rfl, rfl, rfl, rfl, rfl, rfl, trivial⟩ 20 rfl rfl rfl rfl rfl rfl (fun zb1 => ?_)
  refine r_if_eq C eX11_nowOf_9 (fun c2 => ?_) (fun c2 => ?_)
  · rw [if_pos c2] at hf
    refine r_iload_n C eX11_nowOf_21 1 rfl rfl ?_
    refine r_bipush C (v := 13) eX11_nowOf_22 (by decide) ?_
    refine r_icmp_ne C eX11_nowOf_24 (fun c3 => ?_) (fun c3 => ?_)
    · rw [if_neg c3] at hf
      refine r_iload_n C eX11_nowOf_36 1 rfl rfl ?_
      refine r_bipush C (v := 14) eX11_nowOf_37 (by decide) ?_
      refine r_icmp_ne C eX11_nowOf_39 (fun c4 => ?_) (fun c4 => ?_)
      · rw [if_neg c4] at hf
        refine r_iload_n C eX11_nowOf_51 1 rfl rfl ?_
        refine r_bipush C (v := 15) eX11_nowOf_52 (by decide) ?_
        refine r_icmp_ne C eX11_nowOf_54 (fun c5 => ?_) (fun c5 => ?_)
        · rw [if_neg c5] at hf
          refine r_aload_n C eX11_nowOf_72 0 rfl rfl ?_
          obtain ⟨r8, hr8, hf⟩ := zbind hf
          refine r_V_i (ws' := W_Mo (z_g x) a0 o0 (gMo_ints v0) (gMo_told v0) (gMo_postX v0) (gMo_postStrong v0) (gMo_atRow v0) (gMo_heights v0) (gMo_ship v0) (gMo_lines v0) (gMo_text v0) (gMo_said v0) (gMo_readTold v0) (gMo_readX v0) (gMo_readStrong v0) (gMo_readRow v0) (gMo_parting v0) (gMo_wasShip v0) (gMo_wasLines v0) (gMo_worst v0) (gMo_logRow v0) (gMo_images v0) (gMo_isKept v0)) C (c_Mo_fastMany (z_l x) (z_g x) a0 o0 v0  r8 hr8) eX11_nowOf_73 MX11_300 ⟨0, 11, _, _, rfl, rfl, rfl⟩ [0, 1, 2, 3, 4, 5, 6, 7, 8, 9, 10, 11, 12, 13, 14, 15, 16, 17, 18, 19] rfl rfl rfl rfl [] rfl trivial 20 rfl rfl rfl rfl rfl rfl ?_
          refine r_i2l C eX11_nowOf_76 ?_
          obtain rfl := Option.some.inj (show some (r8.toInt64 : Int64) = some _ from hf)
          exact hret _ _ _ eX11_nowOf_77
        · rw [if_pos c5] at hf
          refine r_aload_n C eX11_nowOf_57 0 rfl rfl ?_
          refine r_V_z (ws' := W_Mo (z_g x) a0 o0 (gMo_ints v0) (gMo_told v0) (gMo_postX v0) (gMo_postStrong v0) (gMo_atRow v0) (gMo_heights v0) (gMo_ship v0) (gMo_lines v0) (gMo_text v0) (gMo_said v0) (gMo_readTold v0) (gMo_readX v0) (gMo_readStrong v0) (gMo_readRow v0) (gMo_parting v0) (gMo_wasShip v0) (gMo_wasLines v0) (gMo_worst v0) (gMo_logRow v0) (gMo_images v0) (gMo_isKept v0)) C (c_Mo_isSafe (z_l x) (z_g x) a0 o0 v0  _ rfl) eX11_nowOf_58 MX11_296 ⟨0, 11, _, _, rfl, rfl, rfl⟩ [0, 1, 2, 3, 4, 5, 6, 7, 8, 9, 10, 11, 12, 13, 14, 15, 16, 17, 18, 19] rfl rfl rfl rfl [] rfl trivial 20 rfl rfl rfl rfl rfl rfl (fun zb6 => ?_)
          refine r_if_eq C eX11_nowOf_61 (fun c7 => ?_) (fun c7 => ?_)
          · rw [if_pos c7] at hf
            refine r_lconst C (v := 0) eX11_nowOf_68 (by decide) ?_
            refine r_goto C eX11_nowOf_69 ?_
            obtain rfl := Option.some.inj (show some (0 : Int64) = some _ from hf)
            exact hret _ _ _ eX11_nowOf_77
          · rw [if_neg c7] at hf
            refine r_lconst C (v := 1) eX11_nowOf_64 (by decide) ?_
            refine r_goto C eX11_nowOf_65 ?_
            obtain rfl := Option.some.inj (show some (1 : Int64) = some _ from hf)
            exact hret _ _ _ eX11_nowOf_77
      · rw [if_pos c4] at hf
        refine r_aload_n C eX11_nowOf_42 0 rfl rfl ?_
        refine r_bipush C (v := (-100)) eX11_nowOf_43 (by decide) ?_
        refine r_V_l (ws' := W_Mo (z_g x) a0 o0 (gMo_ints v0) (gMo_told v0) (gMo_postX v0) (gMo_postStrong v0) (gMo_atRow v0) (gMo_heights v0) (gMo_ship v0) (gMo_lines v0) (gMo_text v0) (gMo_said v0) (gMo_readTold v0) (gMo_readX v0) (gMo_readStrong v0) (gMo_readRow v0) (gMo_parting v0) (gMo_wasShip v0) (gMo_wasLines v0) (gMo_worst v0) (gMo_logRow v0) (gMo_images v0) (gMo_isKept v0)) C (c_Mo_offOf (z_l x) (z_g x) a0 o0 v0 (-100) _ rfl) eX11_nowOf_45 MX11_221 ⟨0, 11, _, _, rfl, rfl, rfl⟩ [0, 1, 2, 3, 4, 5, 6, 7, 8, 9, 10, 11, 12, 13, 14, 15, 16, 17, 18, 19] rfl rfl rfl rfl [] rfl trivial 20 rfl rfl rfl rfl rfl rfl ?_
        refine r_goto C eX11_nowOf_48 ?_
        obtain rfl := Option.some.inj (show some ((f_Mo_offOf v0 (-100)) : Int64) = some _ from hf)
        exact hret _ _ _ eX11_nowOf_77
    · rw [if_pos c3] at hf
      refine r_aload_n C eX11_nowOf_27 0 rfl rfl ?_
      refine r_bipush C (v := 100) eX11_nowOf_28 (by decide) ?_
      refine r_V_l (ws' := W_Mo (z_g x) a0 o0 (gMo_ints v0) (gMo_told v0) (gMo_postX v0) (gMo_postStrong v0) (gMo_atRow v0) (gMo_heights v0) (gMo_ship v0) (gMo_lines v0) (gMo_text v0) (gMo_said v0) (gMo_readTold v0) (gMo_readX v0) (gMo_readStrong v0) (gMo_readRow v0) (gMo_parting v0) (gMo_wasShip v0) (gMo_wasLines v0) (gMo_worst v0) (gMo_logRow v0) (gMo_images v0) (gMo_isKept v0)) C (c_Mo_offOf (z_l x) (z_g x) a0 o0 v0 100 _ rfl) eX11_nowOf_30 MX11_221 ⟨0, 11, _, _, rfl, rfl, rfl⟩ [0, 1, 2, 3, 4, 5, 6, 7, 8, 9, 10, 11, 12, 13, 14, 15, 16, 17, 18, 19] rfl rfl rfl rfl [] rfl trivial 20 rfl rfl rfl rfl rfl rfl ?_
      refine r_goto C eX11_nowOf_33 ?_
      obtain rfl := Option.some.inj (show some ((f_Mo_offOf v0 100) : Int64) = some _ from hf)
      exact hret _ _ _ eX11_nowOf_77
  · rw [if_neg c2] at hf
    refine r_aload_n C eX11_nowOf_12 0 rfl rfl ?_
    refine r_get (v := .ref (a0 (o0 + 6))) C eX11_nowOf_13 FX11_25 0 rfl rfl ?_
    refine r_iload_n C eX11_nowOf_16 1 rfl rfl ?_
    obtain ⟨hb9, hf⟩ := zchk hf
    refine r_lald C eX11_nowOf_17 6 rfl (inb_in hb9) ((gMo_ship v0) (ix p1)) rfl ?_
    refine r_goto C eX11_nowOf_18 ?_
    obtain rfl := Option.some.inj (show some (((gMo_ship v0) (ix p1)) : Int64) = some _ from hf)
    exact hret _ _ _ eX11_nowOf_77
theorem eX11_now_0 : zd 1 cX11_now 0 1 (.iload_n 1) := ⟨by decide +kernel, rfl⟩
theorem eX11_now_1 : zd 1 cX11_now 1 2 (.i2l) := ⟨by decide +kernel, rfl⟩
theorem eX11_now_2 : zd 1 cX11_now 2 3 (.lconst 0) := ⟨by decide +kernel, rfl⟩
theorem eX11_now_3 : zd 3 cX11_now 3 6 (.ldc2_w 303) := ⟨by decide +kernel, rfl⟩
theorem eX11_now_6 : zd 3 cX11_now 6 9 (.invokestatic 86) := ⟨by decide +kernel, rfl⟩
theorem eX11_now_9 : zdi cX11_now 9 12 20 (.ifCond .eq) := ⟨11, by decide +kernel, rfl, by decide⟩
theorem eX11_now_12 : zd 1 cX11_now 12 13 (.aload_n 0) := ⟨by decide +kernel, rfl⟩
theorem eX11_now_13 : zd 1 cX11_now 13 14 (.iload_n 1) := ⟨by decide +kernel, rfl⟩
theorem eX11_now_14 : zd 3 cX11_now 14 17 (.invokevirtual 305) := ⟨by decide +kernel, rfl⟩
theorem eX11_now_17 : zdi cX11_now 17 20 23 (.goto) := ⟨6, by decide +kernel, rfl, by decide⟩
theorem eX11_now_20 : zd 3 cX11_now 20 23 (.ldc2_w 308) := ⟨by decide +kernel, rfl⟩
theorem eX11_now_23 : zd 1 cX11_now 23 24 (.lreturn) := ⟨by decide +kernel, rfl⟩
theorem MX11_305 : zlV RX11 305 yX11_nowOf cX11_nowOf 2 ((Option.some FieldType.long)) 1 := ⟨q1299, q1301, qs38, q12, q1302, by decide, by decide, by decide +kernel⟩
noncomputable def f_Mo_now (v0 : tMo) (p1 : Int32) : Option (Int64) := (if (f_Mo_in p1.toInt64 0 16) = 0 then (some (-1000000002)) else (Option.bind (f_Mo_nowOf v0 p1) (fun (r3 : Int64) => (some r3))))
abbrev rm_Mo_now : Room := { frames := 5, cells := 0, slots := 0, locals := 108 }
set_option maxHeartbeats 4000000 in
set_option maxRecDepth 100000 in
theorem c_Mo_now (l : Launch) (g : zGl) (a0 : Nat → Nat) (o0 : Nat) (v0 : tMo) (p1 : Int32) (out : Int64) (hf : f_Mo_now v0 p1 = some out) : zMl l yX11_now cX11_now 2 rm_Mo_now g [.ref (a0 o0), .int p1] (W_Mo g a0 o0 (gMo_ints v0) (gMo_told v0) (gMo_postX v0) (gMo_postStrong v0) (gMo_atRow v0) (gMo_heights v0) (gMo_ship v0) (gMo_lines v0) (gMo_text v0) (gMo_said v0) (gMo_readTold v0) (gMo_readX v0) (gMo_readStrong v0) (gMo_readRow v0) (gMo_parting v0) (gMo_wasShip v0) (gMo_wasLines v0) (gMo_worst v0) (gMo_logRow v0) (gMo_images v0) (gMo_isKept v0)) out (W_Mo g a0 o0 (gMo_ints v0) (gMo_told v0) (gMo_postX v0) (gMo_postStrong v0) (gMo_atRow v0) (gMo_heights v0) (gMo_ship v0) (gMo_lines v0) (gMo_text v0) (gMo_said v0) (gMo_readTold v0) (gMo_readX v0) (gMo_readStrong v0) (gMo_readRow v0) (gMo_parting v0) (gMo_wasShip v0) (gMo_wasLines v0) (gMo_worst v0) (gMo_logRow v0) (gMo_images v0) (gMo_isKept v0)) := by
  refine zMl_of (lv := [(0, .ref (a0 o0)), (1, .int p1)]) (by decide) (Nat.le_of_ble_eq_true rfl) rfl (fun x hl hg C hret => ?_)
  subst hl; subst hg
  rw [f_Mo_now] at hf
  refine r_iload_n C eX11_now_0 1 rfl rfl ?_
  refine r_i2l C eX11_now_1 ?_
  refine r_lconst C (v := 0) eX11_now_2 (by decide) ?_
  refine r_ldc2 C (v := 16) eX11_now_3 q1298 ?_
  refine r_S_z (ws' := W_Mo (z_g x) a0 o0 (gMo_ints v0) (gMo_told v0) (gMo_postX v0) (gMo_postStrong v0) (gMo_atRow v0) (gMo_heights v0) (gMo_ship v0) (gMo_lines v0) (gMo_text v0) (gMo_said v0) (gMo_readTold v0) (gMo_readX v0) (gMo_readStrong v0) (gMo_readRow v0) (gMo_parting v0) (gMo_wasShip v0) (gMo_wasLines v0) (gMo_worst v0) (gMo_logRow v0) (gMo_images v0) (gMo_isKept v0)) C (c_Mo_in (z_l x) (z_g x)  p1.toInt64 0 16 _ rfl) eX11_now_6 MX11_86 [] rfl rfl rfl rfl [0, 1, 2, 3, 4, 5, 6, 7, 8, 9, 10, 11, 12, 13, 14, 15, 16, 17, 18, 19] rfl ⟨rfl, rfl, rfl, rfl, rfl, rfl, rfl, rfl, rfl, rfl, rfl, rfl, rfl, rfl, rfl, rfl, rfl, rfl, rfl, rfl, trivial⟩ 20 rfl rfl rfl rfl rfl rfl (fun zb1 => ?_)
  refine r_if_eq C eX11_now_9 (fun c2 => ?_) (fun c2 => ?_)
  · rw [if_pos c2] at hf
    refine r_ldc2 C (v := (-1000000002)) eX11_now_20 q1334 ?_
    obtain rfl := Option.some.inj (show some ((-1000000002) : Int64) = some _ from hf)
    exact hret _ _ _ eX11_now_23
  · rw [if_neg c2] at hf
    refine r_aload_n C eX11_now_12 0 rfl rfl ?_
    refine r_iload_n C eX11_now_13 1 rfl rfl ?_
    obtain ⟨r3, hr3, hf⟩ := zbind hf
    refine r_V_l (ws' := W_Mo (z_g x) a0 o0 (gMo_ints v0) (gMo_told v0) (gMo_postX v0) (gMo_postStrong v0) (gMo_atRow v0) (gMo_heights v0) (gMo_ship v0) (gMo_lines v0) (gMo_text v0) (gMo_said v0) (gMo_readTold v0) (gMo_readX v0) (gMo_readStrong v0) (gMo_readRow v0) (gMo_parting v0) (gMo_wasShip v0) (gMo_wasLines v0) (gMo_worst v0) (gMo_logRow v0) (gMo_images v0) (gMo_isKept v0)) C (c_Mo_nowOf (z_l x) (z_g x) a0 o0 v0 p1 r3 hr3) eX11_now_14 MX11_305 ⟨0, 11, _, _, rfl, rfl, rfl⟩ [0, 1, 2, 3, 4, 5, 6, 7, 8, 9, 10, 11, 12, 13, 14, 15, 16, 17, 18, 19] rfl rfl rfl rfl [] rfl trivial 20 rfl rfl rfl rfl rfl rfl ?_
    refine r_goto C eX11_now_17 ?_
    obtain rfl := Option.some.inj (show some (r3 : Int64) = some _ from hf)
    exact hret _ _ _ eX11_now_23
theorem eX11_odds_0 : zd 1 cX11_odds 0 1 (.aload_n 0) := ⟨by decide +kernel, rfl⟩
theorem eX11_odds_1 : zd 1 cX11_odds 1 2 (.iload_n 2) := ⟨by decide +kernel, rfl⟩
theorem eX11_odds_2 : zd 3 cX11_odds 2 5 (.invokevirtual 198) := ⟨by decide +kernel, rfl⟩
theorem eX11_odds_5 : zdi cX11_odds 5 8 11 (.ifCond .ne) := ⟨6, by decide +kernel, rfl, by decide⟩
theorem eX11_odds_8 : zd 2 cX11_odds 8 10 (.ldc 202) := ⟨by decide +kernel, rfl⟩
theorem eX11_odds_10 : zd 1 cX11_odds 10 11 (.ireturn) := ⟨by decide +kernel, rfl⟩
theorem eX11_odds_11 : zd 1 cX11_odds 11 12 (.iload_n 1) := ⟨by decide +kernel, rfl⟩
theorem eX11_odds_12 : zd 3 cX11_odds 12 15 (.invokestatic 323) := ⟨by decide +kernel, rfl⟩
theorem eX11_odds_15 : zdi cX11_odds 15 18 27 (.ifCond .eq) := ⟨12, by decide +kernel, rfl, by decide⟩
theorem eX11_odds_18 : zd 1 cX11_odds 18 19 (.aload_n 0) := ⟨by decide +kernel, rfl⟩
theorem eX11_odds_19 : zd 1 cX11_odds 19 20 (.iload_n 1) := ⟨by decide +kernel, rfl⟩
theorem eX11_odds_20 : zd 1 cX11_odds 20 21 (.iload_n 2) := ⟨by decide +kernel, rfl⟩
theorem eX11_odds_21 : zd 3 cX11_odds 21 24 (.invokevirtual 346) := ⟨by decide +kernel, rfl⟩
theorem eX11_odds_24 : zdi cX11_odds 24 27 29 (.goto) := ⟨5, by decide +kernel, rfl, by decide⟩
theorem eX11_odds_27 : zd 2 cX11_odds 27 29 (.ldc 90) := ⟨by decide +kernel, rfl⟩
theorem eX11_odds_29 : zd 1 cX11_odds 29 30 (.ireturn) := ⟨by decide +kernel, rfl⟩
noncomputable def f_Mo_odds (v0 : tMo) (p1 : Int32) (p2 : Int32) : Option (Int32) := (if (f_Mo_isPost v0 p2) = 0 then (some (-1000000001)) else (if (f_Mo_isPlace p1) = 0 then (some (-1000000002)) else (Option.bind (f_Mo_oddsOf v0 p1 p2) (fun (r5 : Int32) => (some r5)))))
abbrev rm_Mo_odds : Room := { frames := 5, cells := 0, slots := 0, locals := 114 }
set_option maxHeartbeats 4000000 in
set_option maxRecDepth 100000 in
theorem c_Mo_odds (l : Launch) (g : zGl) (a0 : Nat → Nat) (o0 : Nat) (v0 : tMo) (p1 : Int32) (p2 : Int32) (out : Int32) (hf : f_Mo_odds v0 p1 p2 = some out) : zMi l yX11_odds cX11_odds 3 rm_Mo_odds g [.ref (a0 o0), .int p1, .int p2] (W_Mo g a0 o0 (gMo_ints v0) (gMo_told v0) (gMo_postX v0) (gMo_postStrong v0) (gMo_atRow v0) (gMo_heights v0) (gMo_ship v0) (gMo_lines v0) (gMo_text v0) (gMo_said v0) (gMo_readTold v0) (gMo_readX v0) (gMo_readStrong v0) (gMo_readRow v0) (gMo_parting v0) (gMo_wasShip v0) (gMo_wasLines v0) (gMo_worst v0) (gMo_logRow v0) (gMo_images v0) (gMo_isKept v0)) out (W_Mo g a0 o0 (gMo_ints v0) (gMo_told v0) (gMo_postX v0) (gMo_postStrong v0) (gMo_atRow v0) (gMo_heights v0) (gMo_ship v0) (gMo_lines v0) (gMo_text v0) (gMo_said v0) (gMo_readTold v0) (gMo_readX v0) (gMo_readStrong v0) (gMo_readRow v0) (gMo_parting v0) (gMo_wasShip v0) (gMo_wasLines v0) (gMo_worst v0) (gMo_logRow v0) (gMo_images v0) (gMo_isKept v0)) := by
  refine zMi_of (lv := [(0, .ref (a0 o0)), (1, .int p1), (2, .int p2)]) (by decide) (Nat.le_of_ble_eq_true rfl) rfl (fun x hl hg C hret => ?_)
  subst hl; subst hg
  rw [f_Mo_odds] at hf
  refine r_aload_n C eX11_odds_0 0 rfl rfl ?_
  refine r_iload_n C eX11_odds_1 2 rfl rfl ?_
  refine r_V_z (ws' := W_Mo (z_g x) a0 o0 (gMo_ints v0) (gMo_told v0) (gMo_postX v0) (gMo_postStrong v0) (gMo_atRow v0) (gMo_heights v0) (gMo_ship v0) (gMo_lines v0) (gMo_text v0) (gMo_said v0) (gMo_readTold v0) (gMo_readX v0) (gMo_readStrong v0) (gMo_readRow v0) (gMo_parting v0) (gMo_wasShip v0) (gMo_wasLines v0) (gMo_worst v0) (gMo_logRow v0) (gMo_images v0) (gMo_isKept v0)) C (c_Mo_isPost (z_l x) (z_g x) a0 o0 v0 p2 _ rfl) eX11_odds_2 MX11_198 ⟨0, 11, _, _, rfl, rfl, rfl⟩ [0, 1, 2, 3, 4, 5, 6, 7, 8, 9, 10, 11, 12, 13, 14, 15, 16, 17, 18, 19] rfl rfl rfl rfl [] rfl trivial 20 rfl rfl rfl rfl rfl rfl (fun zb1 => ?_)
  refine r_if_ne C eX11_odds_5 (fun c2 => ?_) (fun c2 => ?_)
  · rw [if_neg c2] at hf
    refine r_iload_n C eX11_odds_11 1 rfl rfl ?_
    refine r_S_z (ws' := W_Mo (z_g x) a0 o0 (gMo_ints v0) (gMo_told v0) (gMo_postX v0) (gMo_postStrong v0) (gMo_atRow v0) (gMo_heights v0) (gMo_ship v0) (gMo_lines v0) (gMo_text v0) (gMo_said v0) (gMo_readTold v0) (gMo_readX v0) (gMo_readStrong v0) (gMo_readRow v0) (gMo_parting v0) (gMo_wasShip v0) (gMo_wasLines v0) (gMo_worst v0) (gMo_logRow v0) (gMo_images v0) (gMo_isKept v0)) C (c_Mo_isPlace (z_l x) (z_g x)  p1 _ rfl) eX11_odds_12 MX11_323 [] rfl rfl rfl rfl [0, 1, 2, 3, 4, 5, 6, 7, 8, 9, 10, 11, 12, 13, 14, 15, 16, 17, 18, 19] rfl ⟨rfl, rfl, rfl, rfl, rfl, rfl, rfl, rfl, rfl, rfl, rfl, rfl, rfl, rfl, rfl, rfl, rfl, rfl, rfl, rfl, trivial⟩ 20 rfl rfl rfl rfl rfl rfl (fun zb3 => ?_)
    refine r_if_eq C eX11_odds_15 (fun c4 => ?_) (fun c4 => ?_)
    · rw [if_pos c4] at hf
      refine r_ldc C (v := (-1000000002)) eX11_odds_27 q1183 ?_
      obtain rfl := Option.some.inj (show some ((-1000000002) : Int32) = some _ from hf)
      exact hret _ _ _ eX11_odds_29
    · rw [if_neg c4] at hf
      refine r_aload_n C eX11_odds_18 0 rfl rfl ?_
      refine r_iload_n C eX11_odds_19 1 rfl rfl ?_
      refine r_iload_n C eX11_odds_20 2 rfl rfl ?_
      obtain ⟨r5, hr5, hf⟩ := zbind hf
      refine r_V_i (ws' := W_Mo (z_g x) a0 o0 (gMo_ints v0) (gMo_told v0) (gMo_postX v0) (gMo_postStrong v0) (gMo_atRow v0) (gMo_heights v0) (gMo_ship v0) (gMo_lines v0) (gMo_text v0) (gMo_said v0) (gMo_readTold v0) (gMo_readX v0) (gMo_readStrong v0) (gMo_readRow v0) (gMo_parting v0) (gMo_wasShip v0) (gMo_wasLines v0) (gMo_worst v0) (gMo_logRow v0) (gMo_images v0) (gMo_isKept v0)) C (c_Mo_oddsOf (z_l x) (z_g x) a0 o0 v0 p1 p2 r5 hr5) eX11_odds_21 MX11_346 ⟨0, 11, _, _, rfl, rfl, rfl⟩ [0, 1, 2, 3, 4, 5, 6, 7, 8, 9, 10, 11, 12, 13, 14, 15, 16, 17, 18, 19] rfl rfl rfl rfl [] rfl trivial 20 rfl rfl rfl rfl rfl rfl ?_
      refine r_goto C eX11_odds_24 ?_
      obtain rfl := Option.some.inj (show some (r5 : Int32) = some _ from hf)
      exact hret _ _ _ eX11_odds_29
  · rw [if_pos c2] at hf
    refine r_ldc C (v := (-1000000001)) eX11_odds_8 q1276 ?_
    obtain rfl := Option.some.inj (show some ((-1000000001) : Int32) = some _ from hf)
    exact hret _ _ _ eX11_odds_10
theorem eX11_off_0 : zd 1 cX11_off 0 1 (.aload_n 0) := ⟨by decide +kernel, rfl⟩
theorem eX11_off_1 : zd 3 cX11_off 1 4 (.invokevirtual 356) := ⟨by decide +kernel, rfl⟩
theorem eX11_off_4 : zd 1 cX11_off 4 5 (.iconst (-1)) := ⟨by decide +kernel, rfl⟩
theorem eX11_off_5 : zd 1 cX11_off 5 6 (.istore_n 1) := ⟨by decide +kernel, rfl⟩
theorem eX11_off_6 : zd 2 cX11_off 6 8 (.bipush 120) := ⟨by decide +kernel, rfl⟩
theorem eX11_off_8 : zd 1 cX11_off 8 9 (.istore_n 2) := ⟨by decide +kernel, rfl⟩
theorem eX11_off_9 : zd 1 cX11_off 9 10 (.iload_n 2) := ⟨by decide +kernel, rfl⟩
theorem eX11_off_10 : zdi cX11_off 10 13 41 (.ifCond .lt) := ⟨31, by decide +kernel, rfl, by decide⟩
theorem eX11_off_13 : zd 1 cX11_off 13 14 (.iload_n 1) := ⟨by decide +kernel, rfl⟩
theorem eX11_off_14 : zdi cX11_off 14 17 41 (.ifCond .ge) := ⟨27, by decide +kernel, rfl, by decide⟩
theorem eX11_off_17 : zd 1 cX11_off 17 18 (.aload_n 0) := ⟨by decide +kernel, rfl⟩
theorem eX11_off_18 : zd 1 cX11_off 18 19 (.iload_n 2) := ⟨by decide +kernel, rfl⟩
theorem eX11_off_19 : zd 3 cX11_off 19 22 (.invokevirtual 370) := ⟨by decide +kernel, rfl⟩
theorem eX11_off_22 : zdi cX11_off 22 25 29 (.ifCond .eq) := ⟨7, by decide +kernel, rfl, by decide⟩
theorem eX11_off_25 : zd 1 cX11_off 25 26 (.iload_n 2) := ⟨by decide +kernel, rfl⟩
theorem eX11_off_26 : zdi cX11_off 26 29 30 (.goto) := ⟨4, by decide +kernel, rfl, by decide⟩
theorem eX11_off_29 : zd 1 cX11_off 29 30 (.iconst (-1)) := ⟨by decide +kernel, rfl⟩
theorem eX11_off_30 : zd 1 cX11_off 30 31 (.istore_n 1) := ⟨by decide +kernel, rfl⟩
theorem eX11_off_31 : zd 1 cX11_off 31 32 (.aload_n 0) := ⟨by decide +kernel, rfl⟩
theorem eX11_off_32 : zd 3 cX11_off 32 35 (.invokevirtual 359) := ⟨by decide +kernel, rfl⟩
theorem eX11_off_35 : zd 3 cX11_off 35 38 (.iinc 2 (-1)) := ⟨by decide +kernel, rfl⟩
theorem eX11_off_38 : zdi cX11_off 38 41 9 (.goto) := ⟨(-29), by decide +kernel, rfl, by decide⟩
theorem eX11_off_41 : zd 1 cX11_off 41 42 (.iload_n 1) := ⟨by decide +kernel, rfl⟩
theorem eX11_off_42 : zd 1 cX11_off 42 43 (.ireturn) := ⟨by decide +kernel, rfl⟩
theorem MX11_370 : zlV RX11 370 yX11_isOff cX11_isOff 4 ((Option.some FieldType.boolean)) 1 := ⟨q1483, q1485, qs62, q12, q1486, by decide, by decide, by decide +kernel⟩
noncomputable def fB_Mo_off_9 (v0 : tMo) (r1 : (Nat → Int64) × (Nat → Int32)) (ih : (Int32 × Int32 × (Nat → Int64) × (Nat → Int32) × (Nat → Int32)) → Option (Int32 × Int32 × (Nat → Int64) × (Nat → Int32) × (Nat → Int32))) (s2 : Int32 × Int32 × (Nat → Int64) × (Nat → Int32) × (Nat → Int32)) : Option (Int32 × Int32 × (Nat → Int64) × (Nat → Int32) × (Nat → Int32)) := (if (s2.2.1) < 0 then (some ((s2.1), (s2.2.1), (s2.2.2.1), (s2.2.2.2.1), (s2.2.2.2.2))) else (if 0 ≤ (s2.1) then (some ((s2.1), (s2.2.1), (s2.2.2.1), (s2.2.2.2.1), (s2.2.2.2.2))) else (Option.bind (f_Mo_isOff ((gMo_ints v0), (gMo_told v0), (gMo_postX v0), (gMo_postStrong v0), (gMo_atRow v0), (gMo_heights v0), (s2.2.2.1), (s2.2.2.2.1), (gMo_text v0), (gMo_said v0), (gMo_readTold v0), (gMo_readX v0), (gMo_readStrong v0), (gMo_readRow v0), (s2.2.2.2.2), (r1.1), (r1.2), (gMo_worst v0), (gMo_logRow v0), (gMo_images v0), (gMo_isKept v0)) (s2.2.1)) (fun (r9 : Int32 × (Nat → Int64) × (Nat → Int32) × (Nat → Int32)) => (zlet (if (r9.1) = 0 then (-1) else (s2.2.1)) (fun (w11 : Int32) => (Option.bind (f_Mo_back ((gMo_ints v0), (gMo_told v0), (gMo_postX v0), (gMo_postStrong v0), (gMo_atRow v0), (gMo_heights v0), (r9.2.1), (r9.2.2.1), (gMo_text v0), (gMo_said v0), (gMo_readTold v0), (gMo_readX v0), (gMo_readStrong v0), (gMo_readRow v0), (r9.2.2.2), (r1.1), (r1.2), (gMo_worst v0), (gMo_logRow v0), (gMo_images v0), (gMo_isKept v0))) (fun (r14 : (Nat → Int64) × (Nat → Int32)) => (ih (w11, ((s2.2.1) + (-1)), (r14.1), (r14.2), (r9.2.2.2)))))))))))
noncomputable def f_Mo_off (v0 : tMo)  : Option (Int32 × (Nat → Int64) × (Nat → Int32) × (Nat → Int32) × (Nat → Int64) × (Nat → Int32)) := (Option.bind (f_Mo_save v0) (fun (r1 : (Nat → Int64) × (Nat → Int32)) => (Option.bind (lp (fB_Mo_off_9 v0 r1) LF ((-1), 120, (gMo_ship v0), (gMo_lines v0), (gMo_parting v0))) (fun (q3 : Int32 × Int32 × (Nat → Int64) × (Nat → Int32) × (Nat → Int32)) => (some ((q3.1), (q3.2.2.1), (q3.2.2.2.1), (q3.2.2.2.2), (r1.1), (r1.2)))))))
abbrev rm_Mo_off : Room := { frames := 8, cells := 0, slots := 0, locals := 196 }
set_option maxHeartbeats 4000000 in
set_option maxRecDepth 100000 in
theorem c_Mo_off (l : Launch) (g : zGl) (a0 : Nat → Nat) (o0 : Nat) (v0 : tMo)  (out : Int32 × (Nat → Int64) × (Nat → Int32) × (Nat → Int32) × (Nat → Int64) × (Nat → Int32)) (hf : f_Mo_off v0 = some out) : zMi l yX11_off cX11_off 3 rm_Mo_off g [.ref (a0 o0)] (W_Mo g a0 o0 (gMo_ints v0) (gMo_told v0) (gMo_postX v0) (gMo_postStrong v0) (gMo_atRow v0) (gMo_heights v0) (gMo_ship v0) (gMo_lines v0) (gMo_text v0) (gMo_said v0) (gMo_readTold v0) (gMo_readX v0) (gMo_readStrong v0) (gMo_readRow v0) (gMo_parting v0) (gMo_wasShip v0) (gMo_wasLines v0) (gMo_worst v0) (gMo_logRow v0) (gMo_images v0) (gMo_isKept v0)) (out.1) (W_Mo g a0 o0 (gMo_ints v0) (gMo_told v0) (gMo_postX v0) (gMo_postStrong v0) (gMo_atRow v0) (gMo_heights v0) (out.2.1) (out.2.2.1) (gMo_text v0) (gMo_said v0) (gMo_readTold v0) (gMo_readX v0) (gMo_readStrong v0) (gMo_readRow v0) (out.2.2.2.1) (out.2.2.2.2.1) (out.2.2.2.2.2) (gMo_worst v0) (gMo_logRow v0) (gMo_images v0) (gMo_isKept v0)) := by
  refine zMi_of (lv := [(0, .ref (a0 o0))]) (by decide) (Nat.le_of_ble_eq_true rfl) rfl (fun x hl hg C hret => ?_)
  subst hl; subst hg
  rw [f_Mo_off] at hf
  refine r_aload_n C eX11_off_0 0 rfl rfl ?_
  obtain ⟨r1, hr1, hf⟩ := zbind hf
  refine r_V_v (ws' := W_Mo (z_g x) a0 o0 (gMo_ints v0) (gMo_told v0) (gMo_postX v0) (gMo_postStrong v0) (gMo_atRow v0) (gMo_heights v0) (gMo_ship v0) (gMo_lines v0) (gMo_text v0) (gMo_said v0) (gMo_readTold v0) (gMo_readX v0) (gMo_readStrong v0) (gMo_readRow v0) (gMo_parting v0) (r1.1) (r1.2) (gMo_worst v0) (gMo_logRow v0) (gMo_images v0) (gMo_isKept v0)) C (c_Mo_save (z_l x) (z_g x) a0 o0 v0  r1 hr1) eX11_off_1 MX11_356 ⟨0, 11, _, _, rfl, rfl, rfl⟩ [0, 1, 2, 3, 4, 5, 6, 7, 8, 9, 10, 11, 12, 13, 14, 15, 16, 17, 18, 19] rfl rfl rfl rfl [] rfl trivial 20 rfl rfl rfl rfl rfl rfl ?_
  refine r_iconst C (v := (-1)) eX11_off_4 (by decide) ?_
  refine r_istore_n C [(1, .int (-1)), (0, .ref (a0 o0))] eX11_off_5 rfl (by decide) rfl ?_
  refine r_bipush C (v := 120) eX11_off_6 (by decide) ?_
  refine r_istore_n C [(2, .int 120), (1, .int (-1)), (0, .ref (a0 o0))] eX11_off_8 rfl (by decide) rfl ?_
  obtain ⟨q3, h4, hf⟩ := zbind hf
  have J5 : vV x 3 0 0 (W_Mo (z_g x) a0 o0 (gMo_ints v0) (gMo_told v0) (gMo_postX v0) (gMo_postStrong v0) (gMo_atRow v0) (gMo_heights v0) (q3.2.2.1) (q3.2.2.2.1) (gMo_text v0) (gMo_said v0) (gMo_readTold v0) (gMo_readX v0) (gMo_readStrong v0) (gMo_readRow v0) (q3.2.2.2.2) (r1.1) (r1.2) (gMo_worst v0) (gMo_logRow v0) (gMo_images v0) (gMo_isKept v0)) 41 [(1, .int (q3.1))] [] := by
    refine r_iload_n C eX11_off_41 0 rfl rfl ?_
    obtain rfl := Option.some.inj (show some (((q3.1), (q3.2.2.1), (q3.2.2.2.1), (q3.2.2.2.2), (r1.1), (r1.2)) : Int32 × (Nat → Int64) × (Nat → Int32) × (Nat → Int32) × (Nat → Int64) × (Nat → Int32)) = some _ from hf)
    exact hret _ _ _ eX11_off_42
  have L6 : ∀ (nL6 : Nat) (s2 : Int32 × Int32 × (Nat → Int64) × (Nat → Int32) × (Nat → Int32)), lp (fB_Mo_off_9 v0 r1) nL6 s2 = some q3 → vV x 3 0 0 (W_Mo (z_g x) a0 o0 (gMo_ints v0) (gMo_told v0) (gMo_postX v0) (gMo_postStrong v0) (gMo_atRow v0) (gMo_heights v0) (s2.2.2.1) (s2.2.2.2.1) (gMo_text v0) (gMo_said v0) (gMo_readTold v0) (gMo_readX v0) (gMo_readStrong v0) (gMo_readRow v0) (s2.2.2.2.2) (r1.1) (r1.2) (gMo_worst v0) (gMo_logRow v0) (gMo_images v0) (gMo_isKept v0)) 9 [(0, .ref (a0 o0)), (1, .int (s2.1)), (2, .int (s2.2.1))] [] := by
    intro nL6
    induction nL6 with
    | zero => intro s2 hq; cases hq
    | succ nL6 ihL6 =>
      intro s2 hbL6
      rw [lp_succ, fB_Mo_off_9] at hbL6
      refine r_iload_n C eX11_off_9 2 rfl rfl ?_
      refine r_if_lt C eX11_off_10 (fun c7 => ?_) (fun c7 => ?_)
      · rw [if_pos c7] at hbL6
        obtain rfl := Option.some.inj hbL6
        refine r_sub (lv' := [(1, .int (s2.1))]) [1] rfl ?_
        exact J5
      · rw [if_neg c7] at hbL6
        refine r_iload_n C eX11_off_13 1 rfl rfl ?_
        refine r_if_ge C eX11_off_14 (fun c8 => ?_) (fun c8 => ?_)
        · rw [if_pos c8] at hbL6
          obtain rfl := Option.some.inj hbL6
          refine r_sub (lv' := [(1, .int (s2.1))]) [1] rfl ?_
          exact J5
        · rw [if_neg c8] at hbL6
          refine r_aload_n C eX11_off_17 0 rfl rfl ?_
          refine r_iload_n C eX11_off_18 2 rfl rfl ?_
          obtain ⟨r9, hr9, hbL6⟩ := zbind hbL6
          refine r_V_z (ws' := W_Mo (z_g x) a0 o0 (gMo_ints v0) (gMo_told v0) (gMo_postX v0) (gMo_postStrong v0) (gMo_atRow v0) (gMo_heights v0) (r9.2.1) (r9.2.2.1) (gMo_text v0) (gMo_said v0) (gMo_readTold v0) (gMo_readX v0) (gMo_readStrong v0) (gMo_readRow v0) (r9.2.2.2) (r1.1) (r1.2) (gMo_worst v0) (gMo_logRow v0) (gMo_images v0) (gMo_isKept v0)) C (c_Mo_isOff (z_l x) (z_g x) a0 o0 ((gMo_ints v0), (gMo_told v0), (gMo_postX v0), (gMo_postStrong v0), (gMo_atRow v0), (gMo_heights v0), (s2.2.2.1), (s2.2.2.2.1), (gMo_text v0), (gMo_said v0), (gMo_readTold v0), (gMo_readX v0), (gMo_readStrong v0), (gMo_readRow v0), (s2.2.2.2.2), (r1.1), (r1.2), (gMo_worst v0), (gMo_logRow v0), (gMo_images v0), (gMo_isKept v0)) (s2.2.1) r9 hr9) eX11_off_19 MX11_370 ⟨0, 11, _, _, rfl, rfl, rfl⟩ [0, 1, 2, 3, 4, 5, 6, 7, 8, 9, 10, 11, 12, 13, 14, 15, 16, 17, 18, 19] rfl rfl rfl rfl [] rfl trivial 20 rfl rfl rfl rfl rfl rfl (fun zb10 => ?_)
          obtain ⟨w11, hw11, hbL6⟩ := zlet_of hbL6
          have J12 : vV x 3 0 0 (W_Mo (z_g x) a0 o0 (gMo_ints v0) (gMo_told v0) (gMo_postX v0) (gMo_postStrong v0) (gMo_atRow v0) (gMo_heights v0) (r9.2.1) (r9.2.2.1) (gMo_text v0) (gMo_said v0) (gMo_readTold v0) (gMo_readX v0) (gMo_readStrong v0) (gMo_readRow v0) (r9.2.2.2) (r1.1) (r1.2) (gMo_worst v0) (gMo_logRow v0) (gMo_images v0) (gMo_isKept v0)) 30 [(0, .ref (a0 o0)), (2, .int (s2.2.1))] [.int w11] := by
            refine r_istore_n C [(1, .int w11), (0, .ref (a0 o0)), (2, .int (s2.2.1))] eX11_off_30 rfl (by decide) rfl ?_
            refine r_aload_n C eX11_off_31 1 rfl rfl ?_
            obtain ⟨r14, hr14, hbL6⟩ := zbind hbL6
            refine r_V_v (ws' := W_Mo (z_g x) a0 o0 (gMo_ints v0) (gMo_told v0) (gMo_postX v0) (gMo_postStrong v0) (gMo_atRow v0) (gMo_heights v0) (r14.1) (r14.2) (gMo_text v0) (gMo_said v0) (gMo_readTold v0) (gMo_readX v0) (gMo_readStrong v0) (gMo_readRow v0) (r9.2.2.2) (r1.1) (r1.2) (gMo_worst v0) (gMo_logRow v0) (gMo_images v0) (gMo_isKept v0)) C (c_Mo_back (z_l x) (z_g x) a0 o0 ((gMo_ints v0), (gMo_told v0), (gMo_postX v0), (gMo_postStrong v0), (gMo_atRow v0), (gMo_heights v0), (r9.2.1), (r9.2.2.1), (gMo_text v0), (gMo_said v0), (gMo_readTold v0), (gMo_readX v0), (gMo_readStrong v0), (gMo_readRow v0), (r9.2.2.2), (r1.1), (r1.2), (gMo_worst v0), (gMo_logRow v0), (gMo_images v0), (gMo_isKept v0))  r14 hr14) eX11_off_32 MX11_359 ⟨0, 11, _, _, rfl, rfl, rfl⟩ [0, 1, 2, 3, 4, 5, 6, 7, 8, 9, 10, 11, 12, 13, 14, 15, 16, 17, 18, 19] rfl rfl rfl rfl [] rfl trivial 20 rfl rfl rfl rfl rfl rfl ?_
            refine r_iinc C (v := ((s2.2.1) + (-1))) [(2, .int ((s2.2.1) + (-1))), (1, .int w11), (0, .ref (a0 o0))] eX11_off_35 2 rfl rfl (by decide) rfl ?_
            refine r_goto C eX11_off_38 ?_
            refine r_sub (lv' := [(0, .ref (a0 o0)), (1, .int w11), (2, .int ((s2.2.1) + (-1)))]) [2, 1, 0] rfl ?_
            have hc := ihL6 (w11, ((s2.2.1) + (-1)), (r14.1), (r14.2), (r9.2.2.2)) hbL6
            exact hc
          refine r_if_eq C eX11_off_22 (fun c13 => ?_) (fun c13 => ?_)
          · rw [if_pos c13] at hw11
            refine r_iconst C (v := (-1)) eX11_off_29 (by decide) ?_
            subst hw11
            refine r_sub (lv' := [(0, .ref (a0 o0)), (2, .int (s2.2.1))]) [0, 2] rfl ?_
            exact J12 
          · rw [if_neg c13] at hw11
            refine r_iload_n C eX11_off_25 2 rfl rfl ?_
            refine r_goto C eX11_off_26 ?_
            subst hw11
            refine r_sub (lv' := [(0, .ref (a0 o0)), (2, .int (s2.2.1))]) [0, 2] rfl ?_
            exact J12 
  refine r_sub (lv' := [(0, .ref (a0 o0)), (1, .int (-1)), (2, .int 120)]) [2, 1, 0] rfl ?_
  have hc := L6 LF ((-1), 120, (gMo_ship v0), (gMo_lines v0), (gMo_parting v0)) h4
  exact hc
theorem eX11_share_0 : zd 1 cX11_share 0 1 (.lconst 1) := ⟨by decide +kernel, rfl⟩
theorem eX11_share_1 : zd 1 cX11_share 1 2 (.aload_n 0) := ⟨by decide +kernel, rfl⟩
theorem eX11_share_2 : zd 1 cX11_share 2 3 (.aload_n 0) := ⟨by decide +kernel, rfl⟩
theorem eX11_share_3 : zd 3 cX11_share 3 6 (.getfield 29) := ⟨by decide +kernel, rfl⟩
theorem eX11_share_6 : zd 1 cX11_share 6 7 (.iconst 4) := ⟨by decide +kernel, rfl⟩
theorem eX11_share_7 : zd 1 cX11_share 7 8 (.iload_n 1) := ⟨by decide +kernel, rfl⟩
theorem eX11_share_8 : zd 1 cX11_share 8 9 (.imul) := ⟨by decide +kernel, rfl⟩
theorem eX11_share_9 : zd 1 cX11_share 9 10 (.iconst 1) := ⟨by decide +kernel, rfl⟩
theorem eX11_share_10 : zd 1 cX11_share 10 11 (.iadd) := ⟨by decide +kernel, rfl⟩
theorem eX11_share_11 : zd 1 cX11_share 11 12 (.iaload) := ⟨by decide +kernel, rfl⟩
theorem eX11_share_12 : zd 3 cX11_share 12 15 (.invokevirtual 221) := ⟨by decide +kernel, rfl⟩
theorem eX11_share_15 : zd 3 cX11_share 15 18 (.ldc2_w 234) := ⟨by decide +kernel, rfl⟩
theorem eX11_share_18 : zd 1 cX11_share 18 19 (.ldiv) := ⟨by decide +kernel, rfl⟩
theorem eX11_share_19 : zd 1 cX11_share 19 20 (.ladd) := ⟨by decide +kernel, rfl⟩
theorem eX11_share_20 : zd 1 cX11_share 20 21 (.lreturn) := ⟨by decide +kernel, rfl⟩
noncomputable def f_Mo_share (v0 : tMo) (p1 : Int32) : Option (Int64) := (if inb ((4 * p1) + 1) 24 = true then (some (1 + ((f_Mo_offOf v0 ((gMo_lines v0) (ix ((4 * p1) + 1)))) / 10))) else none)
abbrev rm_Mo_share : Room := { frames := 3, cells := 0, slots := 0, locals := 65 }
set_option maxHeartbeats 4000000 in
set_option maxRecDepth 100000 in
theorem c_Mo_share (l : Launch) (g : zGl) (a0 : Nat → Nat) (o0 : Nat) (v0 : tMo) (p1 : Int32) (out : Int64) (hf : f_Mo_share v0 p1 = some out) : zMl l yX11_share cX11_share 2 rm_Mo_share g [.ref (a0 o0), .int p1] (W_Mo g a0 o0 (gMo_ints v0) (gMo_told v0) (gMo_postX v0) (gMo_postStrong v0) (gMo_atRow v0) (gMo_heights v0) (gMo_ship v0) (gMo_lines v0) (gMo_text v0) (gMo_said v0) (gMo_readTold v0) (gMo_readX v0) (gMo_readStrong v0) (gMo_readRow v0) (gMo_parting v0) (gMo_wasShip v0) (gMo_wasLines v0) (gMo_worst v0) (gMo_logRow v0) (gMo_images v0) (gMo_isKept v0)) out (W_Mo g a0 o0 (gMo_ints v0) (gMo_told v0) (gMo_postX v0) (gMo_postStrong v0) (gMo_atRow v0) (gMo_heights v0) (gMo_ship v0) (gMo_lines v0) (gMo_text v0) (gMo_said v0) (gMo_readTold v0) (gMo_readX v0) (gMo_readStrong v0) (gMo_readRow v0) (gMo_parting v0) (gMo_wasShip v0) (gMo_wasLines v0) (gMo_worst v0) (gMo_logRow v0) (gMo_images v0) (gMo_isKept v0)) := by
  refine zMl_of (lv := [(0, .ref (a0 o0)), (1, .int p1)]) (by decide) (Nat.le_of_ble_eq_true rfl) rfl (fun x hl hg C hret => ?_)
  subst hl; subst hg
  rw [f_Mo_share] at hf
  refine r_lconst C (v := 1) eX11_share_0 (by decide) ?_
  refine r_aload_n C eX11_share_1 0 rfl rfl ?_
  refine r_aload_n C eX11_share_2 0 rfl rfl ?_
  refine r_get (v := .ref (a0 (o0 + 7))) C eX11_share_3 FX11_29 0 rfl rfl ?_
  refine r_iconst C (v := 4) eX11_share_6 (by decide) ?_
  refine r_iload_n C eX11_share_7 1 rfl rfl ?_
  refine r_imul C eX11_share_8 ?_
  refine r_iconst C (v := 1) eX11_share_9 (by decide) ?_
  refine r_iadd C eX11_share_10 ?_
  obtain ⟨hb1, hf⟩ := zchk hf
  refine r_iald C eX11_share_11 7 rfl (inb_in hb1) ((gMo_lines v0) (ix ((4 * p1) + 1))) rfl ?_
  refine r_V_l (ws' := W_Mo (z_g x) a0 o0 (gMo_ints v0) (gMo_told v0) (gMo_postX v0) (gMo_postStrong v0) (gMo_atRow v0) (gMo_heights v0) (gMo_ship v0) (gMo_lines v0) (gMo_text v0) (gMo_said v0) (gMo_readTold v0) (gMo_readX v0) (gMo_readStrong v0) (gMo_readRow v0) (gMo_parting v0) (gMo_wasShip v0) (gMo_wasLines v0) (gMo_worst v0) (gMo_logRow v0) (gMo_images v0) (gMo_isKept v0)) C (c_Mo_offOf (z_l x) (z_g x) a0 o0 v0 ((gMo_lines v0) (ix ((4 * p1) + 1))) _ rfl) eX11_share_12 MX11_221 ⟨0, 11, _, _, rfl, rfl, rfl⟩ [0, 1, 2, 3, 4, 5, 6, 7, 8, 9, 10, 11, 12, 13, 14, 15, 16, 17, 18, 19] rfl rfl rfl rfl [] rfl trivial 20 rfl rfl rfl rfl rfl rfl ?_
  refine r_ldc2 C (v := 10) eX11_share_15 q1366 ?_
  refine r_ldiv C eX11_share_18 (by decide) ?_
  refine r_ladd C eX11_share_19 ?_
  obtain rfl := Option.some.inj (show some ((1 + ((f_Mo_offOf v0 ((gMo_lines v0) (ix ((4 * p1) + 1)))) / 10)) : Int64) = some _ from hf)
  exact hret _ _ _ eX11_share_20
theorem eX11_strain_0 : zd 1 cX11_strain 0 1 (.lconst 0) := ⟨by decide +kernel, rfl⟩
theorem eX11_strain_1 : zd 1 cX11_strain 1 2 (.lstore_n 2) := ⟨by decide +kernel, rfl⟩
theorem eX11_strain_2 : zd 1 cX11_strain 2 3 (.iconst 0) := ⟨by decide +kernel, rfl⟩
theorem eX11_strain_3 : zd 2 cX11_strain 3 5 (.istore 4) := ⟨by decide +kernel, rfl⟩
theorem eX11_strain_5 : zd 2 cX11_strain 5 7 (.iload 4) := ⟨by decide +kernel, rfl⟩
theorem eX11_strain_7 : zd 2 cX11_strain 7 9 (.bipush 6) := ⟨by decide +kernel, rfl⟩
theorem eX11_strain_9 : zdi cX11_strain 9 12 41 (.if_icmp .ge) := ⟨32, by decide +kernel, rfl, by decide⟩
theorem eX11_strain_12 : zd 1 cX11_strain 12 13 (.lload_n 2) := ⟨by decide +kernel, rfl⟩
theorem eX11_strain_13 : zd 1 cX11_strain 13 14 (.iload_n 1) := ⟨by decide +kernel, rfl⟩
theorem eX11_strain_14 : zd 2 cX11_strain 14 16 (.iload 4) := ⟨by decide +kernel, rfl⟩
theorem eX11_strain_16 : zd 1 cX11_strain 16 17 (.ishr) := ⟨by decide +kernel, rfl⟩
theorem eX11_strain_17 : zd 1 cX11_strain 17 18 (.iconst 1) := ⟨by decide +kernel, rfl⟩
theorem eX11_strain_18 : zd 1 cX11_strain 18 19 (.iand) := ⟨by decide +kernel, rfl⟩
theorem eX11_strain_19 : zd 1 cX11_strain 19 20 (.iconst 1) := ⟨by decide +kernel, rfl⟩
theorem eX11_strain_20 : zdi cX11_strain 20 23 32 (.if_icmp .ne) := ⟨12, by decide +kernel, rfl, by decide⟩
theorem eX11_strain_23 : zd 1 cX11_strain 23 24 (.aload_n 0) := ⟨by decide +kernel, rfl⟩
theorem eX11_strain_24 : zd 2 cX11_strain 24 26 (.iload 4) := ⟨by decide +kernel, rfl⟩
theorem eX11_strain_26 : zd 3 cX11_strain 26 29 (.invokevirtual 394) := ⟨by decide +kernel, rfl⟩
theorem eX11_strain_29 : zdi cX11_strain 29 32 33 (.goto) := ⟨4, by decide +kernel, rfl, by decide⟩
theorem eX11_strain_32 : zd 1 cX11_strain 32 33 (.lconst 0) := ⟨by decide +kernel, rfl⟩
theorem eX11_strain_33 : zd 1 cX11_strain 33 34 (.ladd) := ⟨by decide +kernel, rfl⟩
theorem eX11_strain_34 : zd 1 cX11_strain 34 35 (.lstore_n 2) := ⟨by decide +kernel, rfl⟩
theorem eX11_strain_35 : zd 3 cX11_strain 35 38 (.iinc 4 1) := ⟨by decide +kernel, rfl⟩
theorem eX11_strain_38 : zdi cX11_strain 38 41 5 (.goto) := ⟨(-33), by decide +kernel, rfl, by decide⟩
theorem eX11_strain_41 : zd 1 cX11_strain 41 42 (.lconst 0) := ⟨by decide +kernel, rfl⟩
theorem eX11_strain_42 : zd 2 cX11_strain 42 44 (.lstore 4) := ⟨by decide +kernel, rfl⟩
theorem eX11_strain_44 : zd 1 cX11_strain 44 45 (.iconst 0) := ⟨by decide +kernel, rfl⟩
theorem eX11_strain_45 : zd 2 cX11_strain 45 47 (.istore 6) := ⟨by decide +kernel, rfl⟩
theorem eX11_strain_47 : zd 2 cX11_strain 47 49 (.iload 6) := ⟨by decide +kernel, rfl⟩
theorem eX11_strain_49 : zd 2 cX11_strain 49 51 (.bipush 6) := ⟨by decide +kernel, rfl⟩
theorem eX11_strain_51 : zdi cX11_strain 51 54 140 (.if_icmp .ge) := ⟨89, by decide +kernel, rfl, by decide⟩
theorem eX11_strain_54 : zd 1 cX11_strain 54 55 (.iload_n 1) := ⟨by decide +kernel, rfl⟩
theorem eX11_strain_55 : zd 2 cX11_strain 55 57 (.iload 6) := ⟨by decide +kernel, rfl⟩
theorem eX11_strain_57 : zd 1 cX11_strain 57 58 (.ishr) := ⟨by decide +kernel, rfl⟩
theorem eX11_strain_58 : zd 1 cX11_strain 58 59 (.iconst 1) := ⟨by decide +kernel, rfl⟩
theorem eX11_strain_59 : zd 1 cX11_strain 59 60 (.iand) := ⟨by decide +kernel, rfl⟩
theorem eX11_strain_60 : zd 1 cX11_strain 60 61 (.iconst 1) := ⟨by decide +kernel, rfl⟩
theorem eX11_strain_61 : zdi cX11_strain 61 64 134 (.if_icmp .ne) := ⟨73, by decide +kernel, rfl, by decide⟩
theorem eX11_strain_64 : zd 1 cX11_strain 64 65 (.aload_n 0) := ⟨by decide +kernel, rfl⟩
theorem eX11_strain_65 : zd 3 cX11_strain 65 68 (.getfield 7) := ⟨by decide +kernel, rfl⟩
theorem eX11_strain_68 : zd 2 cX11_strain 68 70 (.bipush 10) := ⟨by decide +kernel, rfl⟩
theorem eX11_strain_70 : zd 1 cX11_strain 70 71 (.iaload) := ⟨by decide +kernel, rfl⟩
theorem eX11_strain_71 : zd 1 cX11_strain 71 72 (.i2l) := ⟨by decide +kernel, rfl⟩
theorem eX11_strain_72 : zd 1 cX11_strain 72 73 (.aload_n 0) := ⟨by decide +kernel, rfl⟩
theorem eX11_strain_73 : zd 3 cX11_strain 73 76 (.getfield 7) := ⟨by decide +kernel, rfl⟩
theorem eX11_strain_76 : zd 1 cX11_strain 76 77 (.iconst 3) := ⟨by decide +kernel, rfl⟩
theorem eX11_strain_77 : zd 1 cX11_strain 77 78 (.iaload) := ⟨by decide +kernel, rfl⟩
theorem eX11_strain_78 : zd 1 cX11_strain 78 79 (.i2l) := ⟨by decide +kernel, rfl⟩
theorem eX11_strain_79 : zd 1 cX11_strain 79 80 (.lmul) := ⟨by decide +kernel, rfl⟩
theorem eX11_strain_80 : zd 3 cX11_strain 80 83 (.ldc2_w 234) := ⟨by decide +kernel, rfl⟩
theorem eX11_strain_83 : zd 1 cX11_strain 83 84 (.lmul) := ⟨by decide +kernel, rfl⟩
theorem eX11_strain_84 : zd 1 cX11_strain 84 85 (.aload_n 0) := ⟨by decide +kernel, rfl⟩
theorem eX11_strain_85 : zd 2 cX11_strain 85 87 (.iload 6) := ⟨by decide +kernel, rfl⟩
theorem eX11_strain_87 : zd 3 cX11_strain 87 90 (.invokevirtual 394) := ⟨by decide +kernel, rfl⟩
theorem eX11_strain_90 : zd 1 cX11_strain 90 91 (.lmul) := ⟨by decide +kernel, rfl⟩
theorem eX11_strain_91 : zd 1 cX11_strain 91 92 (.lload_n 2) := ⟨by decide +kernel, rfl⟩
theorem eX11_strain_92 : zd 1 cX11_strain 92 93 (.ldiv) := ⟨by decide +kernel, rfl⟩
theorem eX11_strain_93 : zd 3 cX11_strain 93 96 (.ldc2_w 203) := ⟨by decide +kernel, rfl⟩
theorem eX11_strain_96 : zd 1 cX11_strain 96 97 (.lmul) := ⟨by decide +kernel, rfl⟩
theorem eX11_strain_97 : zd 1 cX11_strain 97 98 (.aload_n 0) := ⟨by decide +kernel, rfl⟩
theorem eX11_strain_98 : zd 3 cX11_strain 98 101 (.getfield 16) := ⟨by decide +kernel, rfl⟩
theorem eX11_strain_101 : zd 1 cX11_strain 101 102 (.aload_n 0) := ⟨by decide +kernel, rfl⟩
theorem eX11_strain_102 : zd 3 cX11_strain 102 105 (.getfield 29) := ⟨by decide +kernel, rfl⟩
theorem eX11_strain_105 : zd 1 cX11_strain 105 106 (.iconst 4) := ⟨by decide +kernel, rfl⟩
theorem eX11_strain_106 : zd 2 cX11_strain 106 108 (.iload 6) := ⟨by decide +kernel, rfl⟩
theorem eX11_strain_108 : zd 1 cX11_strain 108 109 (.imul) := ⟨by decide +kernel, rfl⟩
theorem eX11_strain_109 : zd 1 cX11_strain 109 110 (.iconst 2) := ⟨by decide +kernel, rfl⟩
theorem eX11_strain_110 : zd 1 cX11_strain 110 111 (.iadd) := ⟨by decide +kernel, rfl⟩
theorem eX11_strain_111 : zd 1 cX11_strain 111 112 (.iaload) := ⟨by decide +kernel, rfl⟩
theorem eX11_strain_112 : zd 1 cX11_strain 112 113 (.iaload) := ⟨by decide +kernel, rfl⟩
theorem eX11_strain_113 : zd 1 cX11_strain 113 114 (.i2l) := ⟨by decide +kernel, rfl⟩
theorem eX11_strain_114 : zd 1 cX11_strain 114 115 (.ldiv) := ⟨by decide +kernel, rfl⟩
theorem eX11_strain_115 : zd 2 cX11_strain 115 117 (.lstore 7) := ⟨by decide +kernel, rfl⟩
theorem eX11_strain_117 : zd 2 cX11_strain 117 119 (.lload 7) := ⟨by decide +kernel, rfl⟩
theorem eX11_strain_119 : zd 2 cX11_strain 119 121 (.lload 4) := ⟨by decide +kernel, rfl⟩
theorem eX11_strain_121 : zd 1 cX11_strain 121 122 (.lcmp) := ⟨by decide +kernel, rfl⟩
theorem eX11_strain_122 : zdi cX11_strain 122 125 130 (.ifCond .le) := ⟨8, by decide +kernel, rfl, by decide⟩
theorem eX11_strain_125 : zd 2 cX11_strain 125 127 (.lload 7) := ⟨by decide +kernel, rfl⟩
theorem eX11_strain_127 : zdi cX11_strain 127 130 132 (.goto) := ⟨5, by decide +kernel, rfl, by decide⟩
theorem eX11_strain_130 : zd 2 cX11_strain 130 132 (.lload 4) := ⟨by decide +kernel, rfl⟩
theorem eX11_strain_132 : zd 2 cX11_strain 132 134 (.lstore 4) := ⟨by decide +kernel, rfl⟩
theorem eX11_strain_134 : zd 3 cX11_strain 134 137 (.iinc 6 1) := ⟨by decide +kernel, rfl⟩
theorem eX11_strain_137 : zdi cX11_strain 137 140 47 (.goto) := ⟨(-90), by decide +kernel, rfl, by decide⟩
theorem eX11_strain_140 : zd 2 cX11_strain 140 142 (.lload 4) := ⟨by decide +kernel, rfl⟩
theorem eX11_strain_142 : zd 1 cX11_strain 142 143 (.lreturn) := ⟨by decide +kernel, rfl⟩
theorem MX11_394 : zlV RX11 394 yX11_share cX11_share 2 ((Option.some FieldType.long)) 1 := ⟨q1542, q1544, qs67, q12, q1545, by decide, by decide, by decide +kernel⟩
noncomputable def fB_Mo_strain_5 (v0 : tMo) (p1 : Int32) (ih : (Int64 × Int32) → Option (Int64 × Int32)) (s1 : Int64 × Int32) : Option (Int64 × Int32) := (if 6 ≤ (s1.2) then (some ((s1.1), (s1.2))) else (Option.bind (if ((p1 >>> ((s1.2) &&& 31)) &&& 1) = 1 then (Option.bind (f_Mo_share v0 (s1.2)) (fun (r10 : Int64) => (some r10))) else (some 0)) (fun (w7 : Int64) => (zlet ((s1.1) + w7) (fun (z11 : Int64) => (ih (z11, ((s1.2) + 1))))))))
noncomputable def fB_Mo_strain_47 (v0 : tMo) (p1 : Int32) (q2 : Int64 × Int32) (ih : (Int64 × Int32) → Option (Int64 × Int32)) (s12 : Int64 × Int32) : Option (Int64 × Int32) := (if 6 ≤ (s12.2) then (some ((s12.1), (s12.2))) else (if ((p1 >>> ((s12.2) &&& 31)) &&& 1) = 1 then (Option.bind (f_Mo_share v0 (s12.2)) (fun (r19 : Int64) => (if (q2.1) = 0 then none else (if inb ((4 * (s12.2)) + 2) 24 = true then (if inb ((gMo_lines v0) (ix ((4 * (s12.2)) + 2))) 12 = true then (if ((gMo_postStrong v0) (ix ((gMo_lines v0) (ix ((4 * (s12.2)) + 2))))).toInt64 = 0 then none else (zlet ((((((((gMo_told v0) 10).toInt64 * ((gMo_told v0) 3).toInt64) * 10) * r19) / (q2.1)) * 100) / ((gMo_postStrong v0) (ix ((gMo_lines v0) (ix ((4 * (s12.2)) + 2))))).toInt64) (fun (z24 : Int64) => (if z24 ≤ (s12.1) then (ih ((s12.1), ((s12.2) + 1))) else (ih (z24, ((s12.2) + 1))))))) else none) else none)))) else (ih ((s12.1), ((s12.2) + 1)))))
noncomputable def f_Mo_strain (v0 : tMo) (p1 : Int32) : Option (Int64) := (Option.bind (lp (fB_Mo_strain_5 v0 p1) LF (0, 0)) (fun (q2 : Int64 × Int32) => (Option.bind (lp (fB_Mo_strain_47 v0 p1 q2) LF (0, 0)) (fun (q13 : Int64 × Int32) => (some (q13.1))))))
abbrev rm_Mo_strain : Room := { frames := 4, cells := 0, slots := 0, locals := 86 }
set_option maxHeartbeats 4000000 in
set_option maxRecDepth 100000 in
theorem c_Mo_strain (l : Launch) (g : zGl) (a0 : Nat → Nat) (o0 : Nat) (v0 : tMo) (p1 : Int32) (out : Int64) (hf : f_Mo_strain v0 p1 = some out) : zMl l yX11_strain cX11_strain 9 rm_Mo_strain g [.ref (a0 o0), .int p1] (W_Mo g a0 o0 (gMo_ints v0) (gMo_told v0) (gMo_postX v0) (gMo_postStrong v0) (gMo_atRow v0) (gMo_heights v0) (gMo_ship v0) (gMo_lines v0) (gMo_text v0) (gMo_said v0) (gMo_readTold v0) (gMo_readX v0) (gMo_readStrong v0) (gMo_readRow v0) (gMo_parting v0) (gMo_wasShip v0) (gMo_wasLines v0) (gMo_worst v0) (gMo_logRow v0) (gMo_images v0) (gMo_isKept v0)) out (W_Mo g a0 o0 (gMo_ints v0) (gMo_told v0) (gMo_postX v0) (gMo_postStrong v0) (gMo_atRow v0) (gMo_heights v0) (gMo_ship v0) (gMo_lines v0) (gMo_text v0) (gMo_said v0) (gMo_readTold v0) (gMo_readX v0) (gMo_readStrong v0) (gMo_readRow v0) (gMo_parting v0) (gMo_wasShip v0) (gMo_wasLines v0) (gMo_worst v0) (gMo_logRow v0) (gMo_images v0) (gMo_isKept v0)) := by
  refine zMl_of (lv := [(0, .ref (a0 o0)), (1, .int p1)]) (by decide) (Nat.le_of_ble_eq_true rfl) rfl (fun x hl hg C hret => ?_)
  subst hl; subst hg
  rw [f_Mo_strain] at hf
  refine r_lconst C (v := 0) eX11_strain_0 (by decide) ?_
  refine r_lstore_n C [(2, .long 0), (0, .ref (a0 o0)), (1, .int p1)] eX11_strain_1 rfl (by decide) rfl ?_
  refine r_iconst C (v := 0) eX11_strain_2 (by decide) ?_
  refine r_istore C [(4, .int 0), (2, .long 0), (0, .ref (a0 o0)), (1, .int p1)] eX11_strain_3 (by decide) rfl ?_
  obtain ⟨q2, h3, hf⟩ := zbind hf
  have J4 : vV x 9 0 0 (W_Mo (z_g x) a0 o0 (gMo_ints v0) (gMo_told v0) (gMo_postX v0) (gMo_postStrong v0) (gMo_atRow v0) (gMo_heights v0) (gMo_ship v0) (gMo_lines v0) (gMo_text v0) (gMo_said v0) (gMo_readTold v0) (gMo_readX v0) (gMo_readStrong v0) (gMo_readRow v0) (gMo_parting v0) (gMo_wasShip v0) (gMo_wasLines v0) (gMo_worst v0) (gMo_logRow v0) (gMo_images v0) (gMo_isKept v0)) 41 [(0, .ref (a0 o0)), (1, .int p1), (2, .long (q2.1))] [] := by
    refine r_lconst C (v := 0) eX11_strain_41 (by decide) ?_
    refine r_lstore C [(4, .long 0), (0, .ref (a0 o0)), (1, .int p1), (2, .long (q2.1))] eX11_strain_42 (by decide) rfl ?_
    refine r_iconst C (v := 0) eX11_strain_44 (by decide) ?_
    refine r_istore C [(6, .int 0), (4, .long 0), (0, .ref (a0 o0)), (1, .int p1), (2, .long (q2.1))] eX11_strain_45 (by decide) rfl ?_
    obtain ⟨q13, h14, hf⟩ := zbind hf
    have J15 : vV x 9 0 0 (W_Mo (z_g x) a0 o0 (gMo_ints v0) (gMo_told v0) (gMo_postX v0) (gMo_postStrong v0) (gMo_atRow v0) (gMo_heights v0) (gMo_ship v0) (gMo_lines v0) (gMo_text v0) (gMo_said v0) (gMo_readTold v0) (gMo_readX v0) (gMo_readStrong v0) (gMo_readRow v0) (gMo_parting v0) (gMo_wasShip v0) (gMo_wasLines v0) (gMo_worst v0) (gMo_logRow v0) (gMo_images v0) (gMo_isKept v0)) 140 [(4, .long (q13.1))] [] := by
      refine r_lload C eX11_strain_140 0 rfl ?_
      obtain rfl := Option.some.inj (show some ((q13.1) : Int64) = some _ from hf)
      exact hret _ _ _ eX11_strain_142
    have L16 : ∀ (nL16 : Nat) (s12 : Int64 × Int32), lp (fB_Mo_strain_47 v0 p1 q2) nL16 s12 = some q13 → vV x 9 0 0 (W_Mo (z_g x) a0 o0 (gMo_ints v0) (gMo_told v0) (gMo_postX v0) (gMo_postStrong v0) (gMo_atRow v0) (gMo_heights v0) (gMo_ship v0) (gMo_lines v0) (gMo_text v0) (gMo_said v0) (gMo_readTold v0) (gMo_readX v0) (gMo_readStrong v0) (gMo_readRow v0) (gMo_parting v0) (gMo_wasShip v0) (gMo_wasLines v0) (gMo_worst v0) (gMo_logRow v0) (gMo_images v0) (gMo_isKept v0)) 47 [(0, .ref (a0 o0)), (1, .int p1), (2, .long (q2.1)), (4, .long (s12.1)), (6, .int (s12.2))] [] := by
      intro nL16
      induction nL16 with
      | zero => intro s12 hq; cases hq
      | succ nL16 ihL16 =>
        intro s12 hbL16
        rw [lp_succ, fB_Mo_strain_47] at hbL16
        refine r_iload C eX11_strain_47 4 rfl ?_
        refine r_bipush C (v := 6) eX11_strain_49 (by decide) ?_
        refine r_icmp_ge C eX11_strain_51 (fun c17 => ?_) (fun c17 => ?_)
        · rw [if_pos c17] at hbL16
          obtain rfl := Option.some.inj hbL16
          refine r_sub (lv' := [(4, .long (s12.1))]) [3] rfl ?_
          exact J15
        · rw [if_neg c17] at hbL16
          refine r_iload_n C eX11_strain_54 1 rfl rfl ?_
          refine r_iload C eX11_strain_55 4 rfl ?_
          refine r_ishr C eX11_strain_57 ?_
          refine r_iconst C (v := 1) eX11_strain_58 (by decide) ?_
          refine r_iand C eX11_strain_59 ?_
          refine r_iconst C (v := 1) eX11_strain_60 (by decide) ?_
          refine r_icmp_ne C eX11_strain_61 (fun c18 => ?_) (fun c18 => ?_)
          · rw [if_neg c18] at hbL16
            refine r_iinc C (v := ((s12.2) + 1)) [(6, .int ((s12.2) + 1)), (0, .ref (a0 o0)), (1, .int p1), (2, .long (q2.1)), (4, .long (s12.1))] eX11_strain_134 4 rfl rfl (by decide) rfl ?_
            refine r_goto C eX11_strain_137 ?_
            refine r_sub (lv' := [(0, .ref (a0 o0)), (1, .int p1), (2, .long (q2.1)), (4, .long (s12.1)), (6, .int ((s12.2) + 1))]) [1, 2, 3, 4, 0] rfl ?_
            have hc := ihL16 ((s12.1), ((s12.2) + 1)) hbL16
            exact hc
          · rw [if_pos c18] at hbL16
            refine r_aload_n C eX11_strain_64 0 rfl rfl ?_
            refine r_get (v := .ref (a0 (o0 + 1))) C eX11_strain_65 FX11_7 0 rfl rfl ?_
            refine r_bipush C (v := 10) eX11_strain_68 (by decide) ?_
            refine r_ialdN C eX11_strain_70 1 10 (by decide) rfl ((gMo_told v0) 10) rfl ?_
            refine r_i2l C eX11_strain_71 ?_
            refine r_aload_n C eX11_strain_72 0 rfl rfl ?_
            refine r_get (v := .ref (a0 (o0 + 1))) C eX11_strain_73 FX11_7 0 rfl rfl ?_
            refine r_iconst C (v := 3) eX11_strain_76 (by decide) ?_
            refine r_ialdN C eX11_strain_77 1 3 (by decide) rfl ((gMo_told v0) 3) rfl ?_
            refine r_i2l C eX11_strain_78 ?_
            refine r_lmul C eX11_strain_79 ?_
            refine r_ldc2 C (v := 10) eX11_strain_80 q1366 ?_
            refine r_lmul C eX11_strain_83 ?_
            refine r_aload_n C eX11_strain_84 0 rfl rfl ?_
            refine r_iload C eX11_strain_85 4 rfl ?_
            obtain ⟨r19, hr19, hbL16⟩ := zbind hbL16
            refine r_V_l (ws' := W_Mo (z_g x) a0 o0 (gMo_ints v0) (gMo_told v0) (gMo_postX v0) (gMo_postStrong v0) (gMo_atRow v0) (gMo_heights v0) (gMo_ship v0) (gMo_lines v0) (gMo_text v0) (gMo_said v0) (gMo_readTold v0) (gMo_readX v0) (gMo_readStrong v0) (gMo_readRow v0) (gMo_parting v0) (gMo_wasShip v0) (gMo_wasLines v0) (gMo_worst v0) (gMo_logRow v0) (gMo_images v0) (gMo_isKept v0)) C (c_Mo_share (z_l x) (z_g x) a0 o0 v0 (s12.2) r19 hr19) eX11_strain_87 MX11_394 ⟨0, 11, _, _, rfl, rfl, rfl⟩ [0, 1, 2, 3, 4, 5, 6, 7, 8, 9, 10, 11, 12, 13, 14, 15, 16, 17, 18, 19] rfl rfl rfl rfl [] rfl trivial 20 rfl rfl rfl rfl rfl rfl ?_
            refine r_lmul C eX11_strain_90 ?_
            refine r_lload_n C eX11_strain_91 2 rfl rfl ?_
            obtain ⟨hz20, hbL16⟩ := zdv hbL16
            refine r_ldiv C eX11_strain_92 hz20 ?_
            refine r_ldc2 C (v := 100) eX11_strain_93 q1315 ?_
            refine r_lmul C eX11_strain_96 ?_
            refine r_aload_n C eX11_strain_97 0 rfl rfl ?_
            refine r_get (v := .ref (a0 (o0 + 3))) C eX11_strain_98 FX11_16 0 rfl rfl ?_
            refine r_aload_n C eX11_strain_101 0 rfl rfl ?_
            refine r_get (v := .ref (a0 (o0 + 7))) C eX11_strain_102 FX11_29 0 rfl rfl ?_
            refine r_iconst C (v := 4) eX11_strain_105 (by decide) ?_
            refine r_iload C eX11_strain_106 4 rfl ?_
            refine r_imul C eX11_strain_108 ?_
            refine r_iconst C (v := 2) eX11_strain_109 (by decide) ?_
            refine r_iadd C eX11_strain_110 ?_
            obtain ⟨hb21, hbL16⟩ := zchk hbL16
            refine r_iald C eX11_strain_111 7 rfl (inb_in hb21) ((gMo_lines v0) (ix ((4 * (s12.2)) + 2))) rfl ?_
            obtain ⟨hb22, hbL16⟩ := zchk hbL16
            refine r_iald C eX11_strain_112 3 rfl (inb_in hb22) ((gMo_postStrong v0) (ix ((gMo_lines v0) (ix ((4 * (s12.2)) + 2))))) rfl ?_
            refine r_i2l C eX11_strain_113 ?_
            obtain ⟨hz23, hbL16⟩ := zdv hbL16
            refine r_ldiv C eX11_strain_114 hz23 ?_
            obtain ⟨z24, hz24, hbL16⟩ := zlet_of hbL16
            refine r_naml hz24 ?_
            refine r_lstore C [(7, .long z24), (0, .ref (a0 o0)), (1, .int p1), (2, .long (q2.1)), (4, .long (s12.1)), (6, .int (s12.2))] eX11_strain_115 (by decide) rfl ?_
            refine r_lload C eX11_strain_117 0 rfl ?_
            refine r_lload C eX11_strain_119 4 rfl ?_
            refine r_lcmp_le C eX11_strain_121 eX11_strain_122 (fun c25 => ?_) (fun c25 => ?_)
            · rw [if_pos c25] at hbL16
              refine r_lload C eX11_strain_130 4 rfl ?_
              refine r_lstore C [(4, .long (s12.1)), (7, .long z24), (0, .ref (a0 o0)), (1, .int p1), (2, .long (q2.1)), (6, .int (s12.2))] eX11_strain_132 (by decide) rfl ?_
              refine r_iinc C (v := ((s12.2) + 1)) [(6, .int ((s12.2) + 1)), (4, .long (s12.1)), (7, .long z24), (0, .ref (a0 o0)), (1, .int p1), (2, .long (q2.1))] eX11_strain_134 5 rfl rfl (by decide) rfl ?_
              refine r_goto C eX11_strain_137 ?_
              refine r_sub (lv' := [(0, .ref (a0 o0)), (1, .int p1), (2, .long (q2.1)), (4, .long (s12.1)), (6, .int ((s12.2) + 1))]) [3, 4, 5, 1, 0] rfl ?_
              have hc := ihL16 ((s12.1), ((s12.2) + 1)) hbL16
              exact hc
            · rw [if_neg c25] at hbL16
              refine r_lload C eX11_strain_125 0 rfl ?_
              refine r_goto C eX11_strain_127 ?_
              refine r_lstore C [(4, .long z24), (7, .long z24), (0, .ref (a0 o0)), (1, .int p1), (2, .long (q2.1)), (6, .int (s12.2))] eX11_strain_132 (by decide) rfl ?_
              refine r_iinc C (v := ((s12.2) + 1)) [(6, .int ((s12.2) + 1)), (4, .long z24), (7, .long z24), (0, .ref (a0 o0)), (1, .int p1), (2, .long (q2.1))] eX11_strain_134 5 rfl rfl (by decide) rfl ?_
              refine r_goto C eX11_strain_137 ?_
              refine r_sub (lv' := [(0, .ref (a0 o0)), (1, .int p1), (2, .long (q2.1)), (4, .long z24), (6, .int ((s12.2) + 1))]) [3, 4, 5, 1, 0] rfl ?_
              have hc := ihL16 (z24, ((s12.2) + 1)) hbL16
              exact hc
    refine r_sub (lv' := [(0, .ref (a0 o0)), (1, .int p1), (2, .long (q2.1)), (4, .long 0), (6, .int 0)]) [2, 3, 4, 1, 0] rfl ?_
    have hc := L16 LF (0, 0) h14
    exact hc
  have L5 : ∀ (nL5 : Nat) (s1 : Int64 × Int32), lp (fB_Mo_strain_5 v0 p1) nL5 s1 = some q2 → vV x 9 0 0 (W_Mo (z_g x) a0 o0 (gMo_ints v0) (gMo_told v0) (gMo_postX v0) (gMo_postStrong v0) (gMo_atRow v0) (gMo_heights v0) (gMo_ship v0) (gMo_lines v0) (gMo_text v0) (gMo_said v0) (gMo_readTold v0) (gMo_readX v0) (gMo_readStrong v0) (gMo_readRow v0) (gMo_parting v0) (gMo_wasShip v0) (gMo_wasLines v0) (gMo_worst v0) (gMo_logRow v0) (gMo_images v0) (gMo_isKept v0)) 5 [(0, .ref (a0 o0)), (1, .int p1), (2, .long (s1.1)), (4, .int (s1.2))] [] := by
    intro nL5
    induction nL5 with
    | zero => intro s1 hq; cases hq
    | succ nL5 ihL5 =>
      intro s1 hbL5
      rw [lp_succ, fB_Mo_strain_5] at hbL5
      refine r_iload C eX11_strain_5 3 rfl ?_
      refine r_bipush C (v := 6) eX11_strain_7 (by decide) ?_
      refine r_icmp_ge C eX11_strain_9 (fun c6 => ?_) (fun c6 => ?_)
      · rw [if_pos c6] at hbL5
        obtain rfl := Option.some.inj hbL5
        refine r_sub (lv' := [(0, .ref (a0 o0)), (1, .int p1), (2, .long (s1.1))]) [0, 1, 2] rfl ?_
        exact J4
      · rw [if_neg c6] at hbL5
        refine r_lload_n C eX11_strain_12 2 rfl rfl ?_
        refine r_iload_n C eX11_strain_13 1 rfl rfl ?_
        refine r_iload C eX11_strain_14 3 rfl ?_
        refine r_ishr C eX11_strain_16 ?_
        refine r_iconst C (v := 1) eX11_strain_17 (by decide) ?_
        refine r_iand C eX11_strain_18 ?_
        refine r_iconst C (v := 1) eX11_strain_19 (by decide) ?_
        obtain ⟨w7, hw7, hbL5⟩ := zbind hbL5
        have J8 : vV x 9 0 0 (W_Mo (z_g x) a0 o0 (gMo_ints v0) (gMo_told v0) (gMo_postX v0) (gMo_postStrong v0) (gMo_atRow v0) (gMo_heights v0) (gMo_ship v0) (gMo_lines v0) (gMo_text v0) (gMo_said v0) (gMo_readTold v0) (gMo_readX v0) (gMo_readStrong v0) (gMo_readRow v0) (gMo_parting v0) (gMo_wasShip v0) (gMo_wasLines v0) (gMo_worst v0) (gMo_logRow v0) (gMo_images v0) (gMo_isKept v0)) 33 [(0, .ref (a0 o0)), (1, .int p1), (4, .int (s1.2))] [.long w7, .long (s1.1)] := by
          refine r_ladd C eX11_strain_33 ?_
          obtain ⟨z11, hz11, hbL5⟩ := zlet_of hbL5
          refine r_naml hz11 ?_
          refine r_lstore_n C [(2, .long z11), (0, .ref (a0 o0)), (1, .int p1), (4, .int (s1.2))] eX11_strain_34 rfl (by decide) rfl ?_
          refine r_iinc C (v := ((s1.2) + 1)) [(4, .int ((s1.2) + 1)), (2, .long z11), (0, .ref (a0 o0)), (1, .int p1)] eX11_strain_35 3 rfl rfl (by decide) rfl ?_
          refine r_goto C eX11_strain_38 ?_
          refine r_sub (lv' := [(0, .ref (a0 o0)), (1, .int p1), (2, .long z11), (4, .int ((s1.2) + 1))]) [2, 3, 1, 0] rfl ?_
          have hc := ihL5 (z11, ((s1.2) + 1)) hbL5
          exact hc
        refine r_icmp_ne C eX11_strain_20 (fun c9 => ?_) (fun c9 => ?_)
        · rw [if_neg c9] at hw7
          refine r_lconst C (v := 0) eX11_strain_32 (by decide) ?_
          obtain rfl := Option.some.inj hw7
          refine r_sub (lv' := [(0, .ref (a0 o0)), (1, .int p1), (4, .int (s1.2))]) [0, 1, 3] rfl ?_
          exact J8 
        · rw [if_pos c9] at hw7
          refine r_aload_n C eX11_strain_23 0 rfl rfl ?_
          refine r_iload C eX11_strain_24 3 rfl ?_
          obtain ⟨r10, hr10, hw7⟩ := zbind hw7
          refine r_V_l (ws' := W_Mo (z_g x) a0 o0 (gMo_ints v0) (gMo_told v0) (gMo_postX v0) (gMo_postStrong v0) (gMo_atRow v0) (gMo_heights v0) (gMo_ship v0) (gMo_lines v0) (gMo_text v0) (gMo_said v0) (gMo_readTold v0) (gMo_readX v0) (gMo_readStrong v0) (gMo_readRow v0) (gMo_parting v0) (gMo_wasShip v0) (gMo_wasLines v0) (gMo_worst v0) (gMo_logRow v0) (gMo_images v0) (gMo_isKept v0)) C (c_Mo_share (z_l x) (z_g x) a0 o0 v0 (s1.2) r10 hr10) eX11_strain_26 MX11_394 ⟨0, 11, _, _, rfl, rfl, rfl⟩ [0, 1, 2, 3, 4, 5, 6, 7, 8, 9, 10, 11, 12, 13, 14, 15, 16, 17, 18, 19] rfl rfl rfl rfl [] rfl trivial 20 rfl rfl rfl rfl rfl rfl ?_
          refine r_goto C eX11_strain_29 ?_
          obtain rfl := Option.some.inj hw7
          refine r_sub (lv' := [(0, .ref (a0 o0)), (1, .int p1), (4, .int (s1.2))]) [0, 1, 3] rfl ?_
          exact J8 
  refine r_sub (lv' := [(0, .ref (a0 o0)), (1, .int p1), (2, .long 0), (4, .int 0)]) [2, 3, 1, 0] rfl ?_
  have hc := L5 LF (0, 0) h3
  exact hc
