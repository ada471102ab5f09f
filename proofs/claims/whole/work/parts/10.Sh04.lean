theorem eX7_isPlace_0 : zd 1 cX7_isPlace 0 1 (.iload_n 0) := ⟨by decide +kernel, rfl⟩
theorem eX7_isPlace_1 : zd 2 cX7_isPlace 1 3 (.bipush (-100)) := ⟨by decide +kernel, rfl⟩
theorem eX7_isPlace_3 : zdi cX7_isPlace 3 6 16 (.if_icmp .lt) := ⟨13, by decide +kernel, rfl, by decide⟩
theorem eX7_isPlace_6 : zd 1 cX7_isPlace 6 7 (.iload_n 0) := ⟨by decide +kernel, rfl⟩
theorem eX7_isPlace_7 : zd 2 cX7_isPlace 7 9 (.bipush 100) := ⟨by decide +kernel, rfl⟩
theorem eX7_isPlace_9 : zdi cX7_isPlace 9 12 16 (.if_icmp .gt) := ⟨7, by decide +kernel, rfl, by decide⟩
theorem eX7_isPlace_12 : zd 1 cX7_isPlace 12 13 (.iconst 1) := ⟨by decide +kernel, rfl⟩
theorem eX7_isPlace_13 : zdi cX7_isPlace 13 16 17 (.goto) := ⟨4, by decide +kernel, rfl, by decide⟩
theorem eX7_isPlace_16 : zd 1 cX7_isPlace 16 17 (.iconst 0) := ⟨by decide +kernel, rfl⟩
theorem eX7_isPlace_17 : zd 1 cX7_isPlace 17 18 (.ireturn) := ⟨by decide +kernel, rfl⟩
noncomputable def f_Sh_isPlace  (p1 : Int32) : Int32 := (if p1 < (-100) then 0 else (if 100 < p1 then 0 else 1))
abbrev rm_Sh_isPlace : Room := { frames := 0, cells := 0, slots := 0, locals := 0 }
set_option maxHeartbeats 4000000 in
set_option maxRecDepth 100000 in
theorem c_Sh_isPlace (l : Launch) (g : zGl)  (p1 : Int32) (out : Int32) (hf : f_Sh_isPlace p1 = out) : zMz l yX7_isPlace cX7_isPlace 1 rm_Sh_isPlace g [.int p1] ([]) out ([]) := by
  refine zMz_of (lv := [(0, .int p1)]) (by decide) (Nat.le_of_ble_eq_true rfl) rfl (fun x hl hg C hret => ?_)
  subst hl; subst hg
  rw [f_Sh_isPlace] at hf
  refine r_iload_n C eX7_isPlace_0 0 rfl rfl ?_
  refine r_bipush C (v := (-100)) eX7_isPlace_1 (by decide) ?_
  refine r_icmp_lt C eX7_isPlace_3 (fun c1 => ?_) (fun c1 => ?_)
  · rw [if_pos c1] at hf
    refine r_iconst C (v := 0) eX7_isPlace_16 (by decide) ?_
    subst hf
    exact hret _ _ _ eX7_isPlace_17 zB0
  · rw [if_neg c1] at hf
    refine r_iload_n C eX7_isPlace_6 0 rfl rfl ?_
    refine r_bipush C (v := 100) eX7_isPlace_7 (by decide) ?_
    refine r_icmp_gt C eX7_isPlace_9 (fun c2 => ?_) (fun c2 => ?_)
    · rw [if_pos c2] at hf
      refine r_iconst C (v := 0) eX7_isPlace_16 (by decide) ?_
      subst hf
      exact hret _ _ _ eX7_isPlace_17 zB0
    · rw [if_neg c2] at hf
      refine r_iconst C (v := 1) eX7_isPlace_12 (by decide) ?_
      refine r_goto C eX7_isPlace_13 ?_
      subst hf
      exact hret _ _ _ eX7_isPlace_17 zB1
theorem eX7_liesWell_0 : zd 1 cX7_liesWell 0 1 (.aload_n 0) := ⟨by decide +kernel, rfl⟩
theorem eX7_liesWell_1 : zd 1 cX7_liesWell 1 2 (.iload_n 2) := ⟨by decide +kernel, rfl⟩
theorem eX7_liesWell_2 : zd 3 cX7_liesWell 2 5 (.invokevirtual 108) := ⟨by decide +kernel, rfl⟩
theorem eX7_liesWell_5 : zd 3 cX7_liesWell 5 8 (.sipush 300) := ⟨by decide +kernel, rfl⟩
theorem eX7_liesWell_8 : zdi cX7_liesWell 8 11 41 (.if_icmp .ge) := ⟨33, by decide +kernel, rfl, by decide⟩
theorem eX7_liesWell_11 : zd 1 cX7_liesWell 11 12 (.aload_n 0) := ⟨by decide +kernel, rfl⟩
theorem eX7_liesWell_12 : zd 3 cX7_liesWell 12 15 (.getfield 27) := ⟨by decide +kernel, rfl⟩
theorem eX7_liesWell_15 : zd 1 cX7_liesWell 15 16 (.iload_n 2) := ⟨by decide +kernel, rfl⟩
theorem eX7_liesWell_16 : zd 1 cX7_liesWell 16 17 (.iadd) := ⟨by decide +kernel, rfl⟩
theorem eX7_liesWell_17 : zd 1 cX7_liesWell 17 18 (.aload_n 1) := ⟨by decide +kernel, rfl⟩
theorem eX7_liesWell_18 : zd 3 cX7_liesWell 18 21 (.getfield 245) := ⟨by decide +kernel, rfl⟩
theorem eX7_liesWell_21 : zdi cX7_liesWell 21 24 41 (.if_icmp .lt) := ⟨20, by decide +kernel, rfl, by decide⟩
theorem eX7_liesWell_24 : zd 1 cX7_liesWell 24 25 (.aload_n 0) := ⟨by decide +kernel, rfl⟩
theorem eX7_liesWell_25 : zd 3 cX7_liesWell 25 28 (.getfield 27) := ⟨by decide +kernel, rfl⟩
theorem eX7_liesWell_28 : zd 1 cX7_liesWell 28 29 (.iload_n 2) := ⟨by decide +kernel, rfl⟩
theorem eX7_liesWell_29 : zd 1 cX7_liesWell 29 30 (.iadd) := ⟨by decide +kernel, rfl⟩
theorem eX7_liesWell_30 : zd 1 cX7_liesWell 30 31 (.aload_n 1) := ⟨by decide +kernel, rfl⟩
theorem eX7_liesWell_31 : zd 3 cX7_liesWell 31 34 (.getfield 242) := ⟨by decide +kernel, rfl⟩
theorem eX7_liesWell_34 : zdi cX7_liesWell 34 37 41 (.if_icmp .gt) := ⟨7, by decide +kernel, rfl, by decide⟩
theorem eX7_liesWell_37 : zd 1 cX7_liesWell 37 38 (.iconst 1) := ⟨by decide +kernel, rfl⟩
theorem eX7_liesWell_38 : zdi cX7_liesWell 38 41 42 (.goto) := ⟨4, by decide +kernel, rfl, by decide⟩
theorem eX7_liesWell_41 : zd 1 cX7_liesWell 41 42 (.iconst 0) := ⟨by decide +kernel, rfl⟩
theorem eX7_liesWell_42 : zd 1 cX7_liesWell 42 43 (.ireturn) := ⟨by decide +kernel, rfl⟩
theorem FX7_242 : zlF RX7 242 4 1 := ⟨(RX4, TX4, 16), rfl, by decide, q60, zin4⟩
theorem FX7_245 : zlF RX7 245 4 0 := ⟨(RX4, TX4, 16), rfl, by decide, q57, zin4⟩
noncomputable def f_Sh_liesWell (v0 : tSh) (v1 : tQu) (p1 : Int32) : Int32 := (if 300 ≤ (f_Sh_wayOff v0 p1) then 0 else (if (((gSh_ints v0) 0) + p1) < ((gQu_ints v1) 0) then 0 else (if ((gQu_ints v1) 1) < (((gSh_ints v0) 0) + p1) then 0 else 1)))
abbrev rm_Sh_liesWell : Room := { frames := 2, cells := 0, slots := 0, locals := 42 }
set_option maxHeartbeats 4000000 in
set_option maxRecDepth 100000 in
theorem c_Sh_liesWell (l : Launch) (g : zGl) (a0 : Nat → Nat) (o0 : Nat) (v0 : tSh) (a1 : Nat → Nat) (o1 : Nat) (v1 : tQu) (p1 : Int32) (out : Int32) (hf : f_Sh_liesWell v0 v1 p1 = out) : zMz l yX7_liesWell cX7_liesWell 3 rm_Sh_liesWell g [.ref (a0 o0), .ref (a1 o1), .int p1] (W_Sh g a0 o0 (gSh_ints v0) (gSh_harm v0) (gLi_fast (gSh_lines v0)) (gLi_place (gSh_lines v0)) (gLi_post (gSh_lines v0)) (gLi_length (gSh_lines v0)) ++ W_Qu g a1 o1 (gQu_ints v1) (gQu_places v1) (gQu_strengths v1)) out (W_Sh g a0 o0 (gSh_ints v0) (gSh_harm v0) (gLi_fast (gSh_lines v0)) (gLi_place (gSh_lines v0)) (gLi_post (gSh_lines v0)) (gLi_length (gSh_lines v0)) ++ W_Qu g a1 o1 (gQu_ints v1) (gQu_places v1) (gQu_strengths v1)) := by
  refine zMz_of (lv := [(0, .ref (a0 o0)), (1, .ref (a1 o1)), (2, .int p1)]) (by decide) (Nat.le_of_ble_eq_true rfl) rfl (fun x hl hg C hret => ?_)
  subst hl; subst hg
  rw [f_Sh_liesWell] at hf
  refine r_aload_n C eX7_liesWell_0 0 rfl rfl ?_
  refine r_iload_n C eX7_liesWell_1 2 rfl rfl ?_
  refine r_V_i (ws' := W_Sh (z_g x) a0 o0 (gSh_ints v0) (gSh_harm v0) (gLi_fast (gSh_lines v0)) (gLi_place (gSh_lines v0)) (gLi_post (gSh_lines v0)) (gLi_length (gSh_lines v0)) ++ W_Qu (z_g x) a1 o1 (gQu_ints v1) (gQu_places v1) (gQu_strengths v1)) C (c_Sh_wayOff (z_l x) (z_g x) a0 o0 v0 p1 _ rfl) eX7_liesWell_2 MX7_108 ⟨0, 7, _, _, rfl, rfl, rfl⟩ [0, 1, 2, 3, 4, 5] rfl rfl rfl rfl [6, 7, 8] rfl ⟨rfl, rfl, rfl, trivial⟩ 9 rfl rfl rfl rfl rfl rfl ?_
  refine r_sipush C (v := 300) eX7_liesWell_5 (by decide) ?_
  refine r_icmp_ge C eX7_liesWell_8 (fun c1 => ?_) (fun c1 => ?_)
  · rw [if_pos c1] at hf
    refine r_iconst C (v := 0) eX7_liesWell_41 (by decide) ?_
    subst hf
    exact hret _ _ _ eX7_liesWell_42 zB0
  · rw [if_neg c1] at hf
    refine r_aload_n C eX7_liesWell_11 0 rfl rfl ?_
    refine r_get (v := .int ((gSh_ints v0) 0)) C eX7_liesWell_12 FX7_27 0 rfl rfl ?_
    refine r_iload_n C eX7_liesWell_15 2 rfl rfl ?_
    refine r_iadd C eX7_liesWell_16 ?_
    refine r_aload_n C eX7_liesWell_17 1 rfl rfl ?_
    refine r_get (v := .int ((gQu_ints v1) 0)) C eX7_liesWell_18 FX7_245 6 rfl rfl ?_
    refine r_icmp_lt C eX7_liesWell_21 (fun c2 => ?_) (fun c2 => ?_)
    · rw [if_pos c2] at hf
      refine r_iconst C (v := 0) eX7_liesWell_41 (by decide) ?_
      subst hf
      exact hret _ _ _ eX7_liesWell_42 zB0
    · rw [if_neg c2] at hf
      refine r_aload_n C eX7_liesWell_24 0 rfl rfl ?_
      refine r_get (v := .int ((gSh_ints v0) 0)) C eX7_liesWell_25 FX7_27 0 rfl rfl ?_
      refine r_iload_n C eX7_liesWell_28 2 rfl rfl ?_
      refine r_iadd C eX7_liesWell_29 ?_
      refine r_aload_n C eX7_liesWell_30 1 rfl rfl ?_
      refine r_get (v := .int ((gQu_ints v1) 1)) C eX7_liesWell_31 FX7_242 6 rfl rfl ?_
      refine r_icmp_gt C eX7_liesWell_34 (fun c3 => ?_) (fun c3 => ?_)
      · rw [if_pos c3] at hf
        refine r_iconst C (v := 0) eX7_liesWell_41 (by decide) ?_
        subst hf
        exact hret _ _ _ eX7_liesWell_42 zB0
      · rw [if_neg c3] at hf
        refine r_iconst C (v := 1) eX7_liesWell_37 (by decide) ?_
        refine r_goto C eX7_liesWell_38 ?_
        subst hf
        exact hret _ _ _ eX7_liesWell_42 zB1
theorem eX7_isSafe_0 : zd 1 cX7_isSafe 0 1 (.aload_n 0) := ⟨by decide +kernel, rfl⟩
theorem eX7_isSafe_1 : zd 3 cX7_isSafe 1 4 (.getfield 64) := ⟨by decide +kernel, rfl⟩
theorem eX7_isSafe_4 : zd 3 cX7_isSafe 4 7 (.invokestatic 250) := ⟨by decide +kernel, rfl⟩
theorem eX7_isSafe_7 : zd 2 cX7_isSafe 7 9 (.bipush 100) := ⟨by decide +kernel, rfl⟩
theorem eX7_isSafe_9 : zdi cX7_isSafe 9 12 81 (.if_icmp .ge) := ⟨72, by decide +kernel, rfl, by decide⟩
theorem eX7_isSafe_12 : zd 1 cX7_isSafe 12 13 (.aload_n 0) := ⟨by decide +kernel, rfl⟩
theorem eX7_isSafe_13 : zd 3 cX7_isSafe 13 16 (.getfield 67) := ⟨by decide +kernel, rfl⟩
theorem eX7_isSafe_16 : zd 3 cX7_isSafe 16 19 (.invokestatic 250) := ⟨by decide +kernel, rfl⟩
theorem eX7_isSafe_19 : zd 2 cX7_isSafe 19 21 (.bipush 100) := ⟨by decide +kernel, rfl⟩
theorem eX7_isSafe_21 : zdi cX7_isSafe 21 24 81 (.if_icmp .ge) := ⟨60, by decide +kernel, rfl, by decide⟩
theorem eX7_isSafe_24 : zd 1 cX7_isSafe 24 25 (.aload_n 0) := ⟨by decide +kernel, rfl⟩
theorem eX7_isSafe_25 : zd 3 cX7_isSafe 25 28 (.getfield 70) := ⟨by decide +kernel, rfl⟩
theorem eX7_isSafe_28 : zd 3 cX7_isSafe 28 31 (.invokestatic 250) := ⟨by decide +kernel, rfl⟩
theorem eX7_isSafe_31 : zd 2 cX7_isSafe 31 33 (.bipush 100) := ⟨by decide +kernel, rfl⟩
theorem eX7_isSafe_33 : zdi cX7_isSafe 33 36 81 (.if_icmp .ge) := ⟨48, by decide +kernel, rfl, by decide⟩
theorem eX7_isSafe_36 : zd 1 cX7_isSafe 36 37 (.aload_n 0) := ⟨by decide +kernel, rfl⟩
theorem eX7_isSafe_37 : zd 3 cX7_isSafe 37 40 (.getfield 61) := ⟨by decide +kernel, rfl⟩
theorem eX7_isSafe_40 : zd 3 cX7_isSafe 40 43 (.invokestatic 250) := ⟨by decide +kernel, rfl⟩
theorem eX7_isSafe_43 : zd 3 cX7_isSafe 43 46 (.sipush 2000) := ⟨by decide +kernel, rfl⟩
theorem eX7_isSafe_46 : zdi cX7_isSafe 46 49 81 (.if_icmp .ge) := ⟨35, by decide +kernel, rfl, by decide⟩
theorem eX7_isSafe_49 : zd 1 cX7_isSafe 49 50 (.aload_n 0) := ⟨by decide +kernel, rfl⟩
theorem eX7_isSafe_50 : zd 1 cX7_isSafe 50 51 (.aload_n 1) := ⟨by decide +kernel, rfl⟩
theorem eX7_isSafe_51 : zd 1 cX7_isSafe 51 52 (.aload_n 1) := ⟨by decide +kernel, rfl⟩
theorem eX7_isSafe_52 : zd 2 cX7_isSafe 52 54 (.bipush 100) := ⟨by decide +kernel, rfl⟩
theorem eX7_isSafe_54 : zd 3 cX7_isSafe 54 57 (.invokevirtual 101) := ⟨by decide +kernel, rfl⟩
theorem eX7_isSafe_57 : zd 3 cX7_isSafe 57 60 (.invokevirtual 253) := ⟨by decide +kernel, rfl⟩
theorem eX7_isSafe_60 : zdi cX7_isSafe 60 63 81 (.ifCond .eq) := ⟨21, by decide +kernel, rfl, by decide⟩
theorem eX7_isSafe_63 : zd 1 cX7_isSafe 63 64 (.aload_n 0) := ⟨by decide +kernel, rfl⟩
theorem eX7_isSafe_64 : zd 1 cX7_isSafe 64 65 (.aload_n 1) := ⟨by decide +kernel, rfl⟩
theorem eX7_isSafe_65 : zd 1 cX7_isSafe 65 66 (.aload_n 1) := ⟨by decide +kernel, rfl⟩
theorem eX7_isSafe_66 : zd 2 cX7_isSafe 66 68 (.bipush (-100)) := ⟨by decide +kernel, rfl⟩
theorem eX7_isSafe_68 : zd 3 cX7_isSafe 68 71 (.invokevirtual 101) := ⟨by decide +kernel, rfl⟩
theorem eX7_isSafe_71 : zd 3 cX7_isSafe 71 74 (.invokevirtual 253) := ⟨by decide +kernel, rfl⟩
theorem eX7_isSafe_74 : zdi cX7_isSafe 74 77 81 (.ifCond .eq) := ⟨7, by decide +kernel, rfl, by decide⟩
theorem eX7_isSafe_77 : zd 1 cX7_isSafe 77 78 (.iconst 1) := ⟨by decide +kernel, rfl⟩
theorem eX7_isSafe_78 : zdi cX7_isSafe 78 81 82 (.goto) := ⟨4, by decide +kernel, rfl, by decide⟩
theorem eX7_isSafe_81 : zd 1 cX7_isSafe 81 82 (.iconst 0) := ⟨by decide +kernel, rfl⟩
theorem eX7_isSafe_82 : zd 1 cX7_isSafe 82 83 (.ireturn) := ⟨by decide +kernel, rfl⟩
theorem MX7_250 : Cond.methodLink RX7 250 Lib.Math.abs.name ∈ TB ∧ Cond.static Lib.Math.abs.name ∈ TB ∧ Cond.initialized "java/lang/Math" ∈ TB ∧ Cond.code Lib.Math.abs.name Lib.Math.abs.code 1 (some .int) ∈ TB := ⟨q707, q708, q18, q709⟩
theorem MX7_253 : zlV RX7 253 yX7_liesWell cX7_liesWell 3 ((Option.some FieldType.boolean)) 2 := ⟨q711, q713, qs11, q7, q714, by decide, by decide, by decide +kernel⟩
noncomputable def f_Sh_isSafe (v0 : tSh) (v1 : tQu)  : Int32 := (if 100 ≤ (zabs ((gSh_ints v0) 3)) then 0 else (if 100 ≤ (zabs ((gSh_ints v0) 4)) then 0 else (if 100 ≤ (zabs ((gSh_ints v0) 5)) then 0 else (if 2000 ≤ (zabs ((gSh_ints v0) 2)) then 0 else (if (f_Sh_liesWell v0 v1 (f_Qu_arm v1 100)) = 0 then 0 else (if (f_Sh_liesWell v0 v1 (f_Qu_arm v1 (-100))) = 0 then 0 else 1))))))
abbrev rm_Sh_isSafe : Room := { frames := 3, cells := 0, slots := 0, locals := 64 }
set_option maxHeartbeats 4000000 in
set_option maxRecDepth 100000 in
theorem c_Sh_isSafe (l : Launch) (g : zGl) (a0 : Nat → Nat) (o0 : Nat) (v0 : tSh) (a1 : Nat → Nat) (o1 : Nat) (v1 : tQu)  (out : Int32) (hf : f_Sh_isSafe v0 v1 = out) : zMz l yX7_isSafe cX7_isSafe 2 rm_Sh_isSafe g [.ref (a0 o0), .ref (a1 o1)] (W_Sh g a0 o0 (gSh_ints v0) (gSh_harm v0) (gLi_fast (gSh_lines v0)) (gLi_place (gSh_lines v0)) (gLi_post (gSh_lines v0)) (gLi_length (gSh_lines v0)) ++ W_Qu g a1 o1 (gQu_ints v1) (gQu_places v1) (gQu_strengths v1)) out (W_Sh g a0 o0 (gSh_ints v0) (gSh_harm v0) (gLi_fast (gSh_lines v0)) (gLi_place (gSh_lines v0)) (gLi_post (gSh_lines v0)) (gLi_length (gSh_lines v0)) ++ W_Qu g a1 o1 (gQu_ints v1) (gQu_places v1) (gQu_strengths v1)) := by
  refine zMz_of (lv := [(0, .ref (a0 o0)), (1, .ref (a1 o1))]) (by decide) (Nat.le_of_ble_eq_true rfl) rfl (fun x hl hg C hret => ?_)
  subst hl; subst hg
  rw [f_Sh_isSafe] at hf
  refine r_aload_n C eX7_isSafe_0 0 rfl rfl ?_
  refine r_get (v := .int ((gSh_ints v0) 3)) C eX7_isSafe_1 FX7_64 0 rfl rfl ?_
  refine r_mabs C eX7_isSafe_4 MX7_250 rfl ?_
  refine r_bipush C (v := 100) eX7_isSafe_7 (by decide) ?_
  refine r_icmp_ge C eX7_isSafe_9 (fun c1 => ?_) (fun c1 => ?_)
  · rw [if_pos c1] at hf
    refine r_iconst C (v := 0) eX7_isSafe_81 (by decide) ?_
    subst hf
    exact hret _ _ _ eX7_isSafe_82 zB0
  · rw [if_neg c1] at hf
    refine r_aload_n C eX7_isSafe_12 0 rfl rfl ?_
    refine r_get (v := .int ((gSh_ints v0) 4)) C eX7_isSafe_13 FX7_67 0 rfl rfl ?_
    refine r_mabs C eX7_isSafe_16 MX7_250 rfl ?_
    refine r_bipush C (v := 100) eX7_isSafe_19 (by decide) ?_
    refine r_icmp_ge C eX7_isSafe_21 (fun c2 => ?_) (fun c2 => ?_)
    · rw [if_pos c2] at hf
      refine r_iconst C (v := 0) eX7_isSafe_81 (by decide) ?_
      subst hf
      exact hret _ _ _ eX7_isSafe_82 zB0
    · rw [if_neg c2] at hf
      refine r_aload_n C eX7_isSafe_24 0 rfl rfl ?_
      refine r_get (v := .int ((gSh_ints v0) 5)) C eX7_isSafe_25 FX7_70 0 rfl rfl ?_
      refine r_mabs C eX7_isSafe_28 MX7_250 rfl ?_
      refine r_bipush C (v := 100) eX7_isSafe_31 (by decide) ?_
      refine r_icmp_ge C eX7_isSafe_33 (fun c3 => ?_) (fun c3 => ?_)
      · rw [if_pos c3] at hf
        refine r_iconst C (v := 0) eX7_isSafe_81 (by decide) ?_
        subst hf
        exact hret _ _ _ eX7_isSafe_82 zB0
      · rw [if_neg c3] at hf
        refine r_aload_n C eX7_isSafe_36 0 rfl rfl ?_
        refine r_get (v := .int ((gSh_ints v0) 2)) C eX7_isSafe_37 FX7_61 0 rfl rfl ?_
        refine r_mabs C eX7_isSafe_40 MX7_250 rfl ?_
        refine r_sipush C (v := 2000) eX7_isSafe_43 (by decide) ?_
        refine r_icmp_ge C eX7_isSafe_46 (fun c4 => ?_) (fun c4 => ?_)
        · rw [if_pos c4] at hf
          refine r_iconst C (v := 0) eX7_isSafe_81 (by decide) ?_
          subst hf
          exact hret _ _ _ eX7_isSafe_82 zB0
        · rw [if_neg c4] at hf
          refine r_aload_n C eX7_isSafe_49 0 rfl rfl ?_
          refine r_aload_n C eX7_isSafe_50 1 rfl rfl ?_
          refine r_aload_n C eX7_isSafe_51 1 rfl rfl ?_
          refine r_bipush C (v := 100) eX7_isSafe_52 (by decide) ?_
          refine r_V_i (ws' := W_Sh (z_g x) a0 o0 (gSh_ints v0) (gSh_harm v0) (gLi_fast (gSh_lines v0)) (gLi_place (gSh_lines v0)) (gLi_post (gSh_lines v0)) (gLi_length (gSh_lines v0)) ++ W_Qu (z_g x) a1 o1 (gQu_ints v1) (gQu_places v1) (gQu_strengths v1)) C (c_Qu_arm (z_l x) (z_g x) a1 o1 v1 100 _ rfl) eX7_isSafe_54 MX7_101 ⟨0, 4, _, _, rfl, rfl, rfl⟩ [6, 7, 8] rfl rfl rfl rfl [0, 1, 2, 3, 4, 5] rfl ⟨rfl, rfl, rfl, rfl, rfl, rfl, trivial⟩ 9 rfl rfl rfl rfl rfl rfl ?_
          refine r_V_z (ws' := W_Sh (z_g x) a0 o0 (gSh_ints v0) (gSh_harm v0) (gLi_fast (gSh_lines v0)) (gLi_place (gSh_lines v0)) (gLi_post (gSh_lines v0)) (gLi_length (gSh_lines v0)) ++ W_Qu (z_g x) a1 o1 (gQu_ints v1) (gQu_places v1) (gQu_strengths v1)) C (c_Sh_liesWell (z_l x) (z_g x) a0 o0 v0 a1 o1 v1 (f_Qu_arm v1 100) _ rfl) eX7_isSafe_57 MX7_253 ⟨0, 7, _, _, rfl, rfl, rfl⟩ [0, 1, 2, 3, 4, 5, 6, 7, 8] rfl rfl rfl rfl [] rfl trivial 9 rfl rfl rfl rfl rfl rfl (fun zb5 => ?_)
          refine r_if_eq C eX7_isSafe_60 (fun c6 => ?_) (fun c6 => ?_)
          · rw [if_pos c6] at hf
            refine r_iconst C (v := 0) eX7_isSafe_81 (by decide) ?_
            subst hf
            exact hret _ _ _ eX7_isSafe_82 zB0
          · rw [if_neg c6] at hf
            refine r_aload_n C eX7_isSafe_63 0 rfl rfl ?_
            refine r_aload_n C eX7_isSafe_64 1 rfl rfl ?_
            refine r_aload_n C eX7_isSafe_65 1 rfl rfl ?_
            refine r_bipush C (v := (-100)) eX7_isSafe_66 (by decide) ?_
            refine r_V_i (ws' := W_Sh (z_g x) a0 o0 (gSh_ints v0) (gSh_harm v0) (gLi_fast (gSh_lines v0)) (gLi_place (gSh_lines v0)) (gLi_post (gSh_lines v0)) (gLi_length (gSh_lines v0)) ++ W_Qu (z_g x) a1 o1 (gQu_ints v1) (gQu_places v1) (gQu_strengths v1)) C (c_Qu_arm (z_l x) (z_g x) a1 o1 v1 (-100) _ rfl) eX7_isSafe_68 MX7_101 ⟨0, 4, _, _, rfl, rfl, rfl⟩ [6, 7, 8] rfl rfl rfl rfl [0, 1, 2, 3, 4, 5] rfl ⟨rfl, rfl, rfl, rfl, rfl, rfl, trivial⟩ 9 rfl rfl rfl rfl rfl rfl ?_
            refine r_V_z (ws' := W_Sh (z_g x) a0 o0 (gSh_ints v0) (gSh_harm v0) (gLi_fast (gSh_lines v0)) (gLi_place (gSh_lines v0)) (gLi_post (gSh_lines v0)) (gLi_length (gSh_lines v0)) ++ W_Qu (z_g x) a1 o1 (gQu_ints v1) (gQu_places v1) (gQu_strengths v1)) C (c_Sh_liesWell (z_l x) (z_g x) a0 o0 v0 a1 o1 v1 (f_Qu_arm v1 (-100)) _ rfl) eX7_isSafe_71 MX7_253 ⟨0, 7, _, _, rfl, rfl, rfl⟩ [0, 1, 2, 3, 4, 5, 6, 7, 8] rfl rfl rfl rfl [] rfl trivial 9 rfl rfl rfl rfl rfl rfl (fun zb7 => ?_)
            refine r_if_eq C eX7_isSafe_74 (fun c8 => ?_) (fun c8 => ?_)
            · rw [if_pos c8] at hf
              refine r_iconst C (v := 0) eX7_isSafe_81 (by decide) ?_
              subst hf
              exact hret _ _ _ eX7_isSafe_82 zB0
            · rw [if_neg c8] at hf
              refine r_iconst C (v := 1) eX7_isSafe_77 (by decide) ?_
              refine r_goto C eX7_isSafe_78 ?_
              subst hf
              exact hret _ _ _ eX7_isSafe_82 zB1
theorem eX7_knock_0 : zd 1 cX7_knock 0 1 (.aload_n 0) := ⟨by decide +kernel, rfl⟩
theorem eX7_knock_1 : zd 1 cX7_knock 1 2 (.iload_n 2) := ⟨by decide +kernel, rfl⟩
theorem eX7_knock_2 : zd 3 cX7_knock 2 5 (.invokevirtual 87) := ⟨by decide +kernel, rfl⟩
theorem eX7_knock_5 : zd 1 cX7_knock 5 6 (.ineg) := ⟨by decide +kernel, rfl⟩
theorem eX7_knock_6 : zd 1 cX7_knock 6 7 (.istore_n 3) := ⟨by decide +kernel, rfl⟩
theorem eX7_knock_7 : zd 1 cX7_knock 7 8 (.iload_n 3) := ⟨by decide +kernel, rfl⟩
theorem eX7_knock_8 : zdi cX7_knock 8 11 12 (.ifCond .gt) := ⟨4, by decide +kernel, rfl, by decide⟩
theorem eX7_knock_11 : zd 1 cX7_knock 11 12 (.return_) := ⟨by decide +kernel, rfl⟩
theorem eX7_knock_12 : zd 1 cX7_knock 12 13 (.aload_n 0) := ⟨by decide +kernel, rfl⟩
theorem eX7_knock_13 : zd 3 cX7_knock 13 16 (.getfield 64) := ⟨by decide +kernel, rfl⟩
theorem eX7_knock_16 : zd 1 cX7_knock 16 17 (.i2l) := ⟨by decide +kernel, rfl⟩
theorem eX7_knock_17 : zd 1 cX7_knock 17 18 (.aload_n 0) := ⟨by decide +kernel, rfl⟩
theorem eX7_knock_18 : zd 3 cX7_knock 18 21 (.getfield 61) := ⟨by decide +kernel, rfl⟩
theorem eX7_knock_21 : zd 1 cX7_knock 21 22 (.i2l) := ⟨by decide +kernel, rfl⟩
theorem eX7_knock_22 : zd 1 cX7_knock 22 23 (.lmul) := ⟨by decide +kernel, rfl⟩
theorem eX7_knock_23 : zd 3 cX7_knock 23 26 (.ldc2_w 231) := ⟨by decide +kernel, rfl⟩
theorem eX7_knock_26 : zd 1 cX7_knock 26 27 (.ldiv) := ⟨by decide +kernel, rfl⟩
theorem eX7_knock_27 : zd 2 cX7_knock 27 29 (.lstore 4) := ⟨by decide +kernel, rfl⟩
theorem eX7_knock_29 : zd 1 cX7_knock 29 30 (.aload_n 0) := ⟨by decide +kernel, rfl⟩
theorem eX7_knock_30 : zd 3 cX7_knock 30 33 (.getfield 67) := ⟨by decide +kernel, rfl⟩
theorem eX7_knock_33 : zd 1 cX7_knock 33 34 (.i2l) := ⟨by decide +kernel, rfl⟩
theorem eX7_knock_34 : zd 2 cX7_knock 34 36 (.lload 4) := ⟨by decide +kernel, rfl⟩
theorem eX7_knock_36 : zd 1 cX7_knock 36 37 (.ladd) := ⟨by decide +kernel, rfl⟩
theorem eX7_knock_37 : zd 1 cX7_knock 37 38 (.aload_n 0) := ⟨by decide +kernel, rfl⟩
theorem eX7_knock_38 : zd 3 cX7_knock 38 41 (.getfield 70) := ⟨by decide +kernel, rfl⟩
theorem eX7_knock_41 : zd 1 cX7_knock 41 42 (.iload_n 2) := ⟨by decide +kernel, rfl⟩
theorem eX7_knock_42 : zd 1 cX7_knock 42 43 (.imul) := ⟨by decide +kernel, rfl⟩
theorem eX7_knock_43 : zd 3 cX7_knock 43 46 (.sipush 573) := ⟨by decide +kernel, rfl⟩
theorem eX7_knock_46 : zd 1 cX7_knock 46 47 (.idiv) := ⟨by decide +kernel, rfl⟩
theorem eX7_knock_47 : zd 1 cX7_knock 47 48 (.i2l) := ⟨by decide +kernel, rfl⟩
theorem eX7_knock_48 : zd 1 cX7_knock 48 49 (.ladd) := ⟨by decide +kernel, rfl⟩
theorem eX7_knock_49 : zd 3 cX7_knock 49 52 (.ldc2_w 233) := ⟨by decide +kernel, rfl⟩
theorem eX7_knock_52 : zd 1 cX7_knock 52 53 (.ldiv) := ⟨by decide +kernel, rfl⟩
theorem eX7_knock_53 : zd 2 cX7_knock 53 55 (.lstore 6) := ⟨by decide +kernel, rfl⟩
theorem eX7_knock_55 : zd 2 cX7_knock 55 57 (.lload 6) := ⟨by decide +kernel, rfl⟩
theorem eX7_knock_57 : zd 1 cX7_knock 57 58 (.aload_n 1) := ⟨by decide +kernel, rfl⟩
theorem eX7_knock_58 : zd 3 cX7_knock 58 61 (.getfield 235) := ⟨by decide +kernel, rfl⟩
theorem eX7_knock_61 : zd 1 cX7_knock 61 62 (.i2l) := ⟨by decide +kernel, rfl⟩
theorem eX7_knock_62 : zd 1 cX7_knock 62 63 (.lcmp) := ⟨by decide +kernel, rfl⟩
theorem eX7_knock_63 : zdi cX7_knock 63 66 83 (.ifCond .le) := ⟨20, by decide +kernel, rfl, by decide⟩
theorem eX7_knock_66 : zd 1 cX7_knock 66 67 (.aload_n 0) := ⟨by decide +kernel, rfl⟩
theorem eX7_knock_67 : zd 1 cX7_knock 67 68 (.dup) := ⟨by decide +kernel, rfl⟩
theorem eX7_knock_68 : zd 3 cX7_knock 68 71 (.getfield 37) := ⟨by decide +kernel, rfl⟩
theorem eX7_knock_71 : zd 1 cX7_knock 71 72 (.iconst 1) := ⟨by decide +kernel, rfl⟩
theorem eX7_knock_72 : zd 1 cX7_knock 72 73 (.iadd) := ⟨by decide +kernel, rfl⟩
theorem eX7_knock_73 : zd 3 cX7_knock 73 76 (.putfield 37) := ⟨by decide +kernel, rfl⟩
theorem eX7_knock_76 : zd 1 cX7_knock 76 77 (.aload_n 0) := ⟨by decide +kernel, rfl⟩
theorem eX7_knock_77 : zd 1 cX7_knock 77 78 (.aload_n 1) := ⟨by decide +kernel, rfl⟩
theorem eX7_knock_78 : zd 2 cX7_knock 78 80 (.lload 6) := ⟨by decide +kernel, rfl⟩
theorem eX7_knock_80 : zd 3 cX7_knock 80 83 (.invokevirtual 238) := ⟨by decide +kernel, rfl⟩
theorem eX7_knock_83 : zd 2 cX7_knock 83 85 (.lload 6) := ⟨by decide +kernel, rfl⟩
theorem eX7_knock_85 : zd 1 cX7_knock 85 86 (.lconst 0) := ⟨by decide +kernel, rfl⟩
theorem eX7_knock_86 : zd 1 cX7_knock 86 87 (.lcmp) := ⟨by decide +kernel, rfl⟩
theorem eX7_knock_87 : zdi cX7_knock 87 90 106 (.ifCond .le) := ⟨19, by decide +kernel, rfl, by decide⟩
theorem eX7_knock_90 : zd 1 cX7_knock 90 91 (.aload_n 0) := ⟨by decide +kernel, rfl⟩
theorem eX7_knock_91 : zd 1 cX7_knock 91 92 (.iconst 0) := ⟨by decide +kernel, rfl⟩
theorem eX7_knock_92 : zd 3 cX7_knock 92 95 (.putfield 67) := ⟨by decide +kernel, rfl⟩
theorem eX7_knock_95 : zd 1 cX7_knock 95 96 (.aload_n 0) := ⟨by decide +kernel, rfl⟩
theorem eX7_knock_96 : zd 1 cX7_knock 96 97 (.aload_n 0) := ⟨by decide +kernel, rfl⟩
theorem eX7_knock_97 : zd 3 cX7_knock 97 100 (.getfield 70) := ⟨by decide +kernel, rfl⟩
theorem eX7_knock_100 : zd 1 cX7_knock 100 101 (.iconst 3) := ⟨by decide +kernel, rfl⟩
theorem eX7_knock_101 : zd 1 cX7_knock 101 102 (.idiv) := ⟨by decide +kernel, rfl⟩
theorem eX7_knock_102 : zd 1 cX7_knock 102 103 (.ineg) := ⟨by decide +kernel, rfl⟩
theorem eX7_knock_103 : zd 3 cX7_knock 103 106 (.putfield 70) := ⟨by decide +kernel, rfl⟩
theorem eX7_knock_106 : zd 1 cX7_knock 106 107 (.aload_n 0) := ⟨by decide +kernel, rfl⟩
theorem eX7_knock_107 : zd 1 cX7_knock 107 108 (.dup) := ⟨by decide +kernel, rfl⟩
theorem eX7_knock_108 : zd 3 cX7_knock 108 111 (.getfield 31) := ⟨by decide +kernel, rfl⟩
theorem eX7_knock_111 : zd 1 cX7_knock 111 112 (.iload_n 3) := ⟨by decide +kernel, rfl⟩
theorem eX7_knock_112 : zd 1 cX7_knock 112 113 (.iadd) := ⟨by decide +kernel, rfl⟩
theorem eX7_knock_113 : zd 3 cX7_knock 113 116 (.putfield 31) := ⟨by decide +kernel, rfl⟩
theorem eX7_knock_116 : zd 1 cX7_knock 116 117 (.return_) := ⟨by decide +kernel, rfl⟩
theorem FX7_235 : zlF RX7 235 4 12 := ⟨(RX4, TX4, 16), rfl, by decide, q84, zin4⟩
theorem MX7_238 : zlV RX7 238 yX7_addHarm cX7_addHarm 4 (none) 2 := ⟨q765, q767, qs16, q7, q768, by decide, by decide, by decide +kernel⟩
noncomputable def f_Sh_knock (v0 : tSh) (v1 : tQu) (p1 : Int32) : (Nat → Int32) × Int64 := (zlet (-(f_Sh_unheldOff v0 p1)) (fun (z1 : Int32) => (if 0 < z1 then (zlet ((((gSh_ints v0) 3).toInt64 * ((gSh_ints v0) 2).toInt64) / 57296) (fun (z3 : Int64) => (zlet (((((gSh_ints v0) 4).toInt64 + z3) + ((((gSh_ints v0) 5) * p1) / 573).toInt64) / 100) (fun (z4 : Int64) => (zlet (if z4 ≤ ((gQu_ints v1) 12).toInt64 then ((gSh_ints v0), (gSh_harm v0)) else (zlet (((gSh_ints v0) 10) + 1) (fun (z8 : Int32) => (zlet (f_Sh_addHarm ((upd (gSh_ints v0) 10 z8), (gSh_harm v0), (gSh_lines v0)) v1 z4) (fun (r9 : Int64) => ((upd (gSh_ints v0) 10 z8), r9)))))) (fun (w5 : (Nat → Int32) × Int64) => (zlet (if z4 ≤ 0 then (w5.1) else (zlet (-(((w5.1) 5) / 3)) (fun (z13 : Int32) => (upd (upd (w5.1) 4 0) 5 z13)))) (fun (w10 : (Nat → Int32)) => (zlet ((w10 1) + z1) (fun (z14 : Int32) => ((upd w10 1 z14), (w5.2)))))))))))) else ((gSh_ints v0), (gSh_harm v0)))))
abbrev rm_Sh_knock : Room := { frames := 1, cells := 0, slots := 0, locals := 23 }
set_option maxHeartbeats 4000000 in
set_option maxRecDepth 100000 in
theorem c_Sh_knock (l : Launch) (g : zGl) (a0 : Nat → Nat) (o0 : Nat) (v0 : tSh) (a1 : Nat → Nat) (o1 : Nat) (v1 : tQu) (p1 : Int32) (out : (Nat → Int32) × Int64) (hf : f_Sh_knock v0 v1 p1 = out) : zMv l yX7_knock cX7_knock 8 rm_Sh_knock g [.ref (a0 o0), .ref (a1 o1), .int p1] (W_Sh g a0 o0 (gSh_ints v0) (gSh_harm v0) (gLi_fast (gSh_lines v0)) (gLi_place (gSh_lines v0)) (gLi_post (gSh_lines v0)) (gLi_length (gSh_lines v0)) ++ W_Qu g a1 o1 (gQu_ints v1) (gQu_places v1) (gQu_strengths v1))  (W_Sh g a0 o0 (out.1) (out.2) (gLi_fast (gSh_lines v0)) (gLi_place (gSh_lines v0)) (gLi_post (gSh_lines v0)) (gLi_length (gSh_lines v0)) ++ W_Qu g a1 o1 (gQu_ints v1) (gQu_places v1) (gQu_strengths v1)) := by
  refine zMv_of (lv := [(0, .ref (a0 o0)), (1, .ref (a1 o1)), (2, .int p1)]) (by decide) (Nat.le_of_ble_eq_true rfl) rfl (fun x hl hg C hret => ?_)
  subst hl; subst hg
  rw [f_Sh_knock] at hf
  refine r_aload_n C eX7_knock_0 0 rfl rfl ?_
  refine r_iload_n C eX7_knock_1 2 rfl rfl ?_
  refine r_V_i (ws' := W_Sh (z_g x) a0 o0 (gSh_ints v0) (gSh_harm v0) (gLi_fast (gSh_lines v0)) (gLi_place (gSh_lines v0)) (gLi_post (gSh_lines v0)) (gLi_length (gSh_lines v0)) ++ W_Qu (z_g x) a1 o1 (gQu_ints v1) (gQu_places v1) (gQu_strengths v1)) C (c_Sh_unheldOff (z_l x) (z_g x) a0 o0 v0 p1 _ rfl) eX7_knock_2 MX7_87 ⟨0, 7, _, _, rfl, rfl, rfl⟩ [0, 1, 2, 3, 4, 5] rfl rfl rfl rfl [6, 7, 8] rfl ⟨rfl, rfl, rfl, trivial⟩ 9 rfl rfl rfl rfl rfl rfl ?_
  refine r_ineg C eX7_knock_5 ?_
  obtain ⟨z1, hz1, hf⟩ := zlet_of hf
  refine r_nami hz1 ?_
  refine r_istore_n C [(3, .int z1), (0, .ref (a0 o0)), (1, .ref (a1 o1)), (2, .int p1)] eX7_knock_6 rfl (by decide) rfl ?_
  refine r_iload_n C eX7_knock_7 0 rfl rfl ?_
  refine r_if_gt C eX7_knock_8 (fun c2 => ?_) (fun c2 => ?_)
  · rw [if_pos c2] at hf
    refine r_aload_n C eX7_knock_12 1 rfl rfl ?_
    refine r_get (v := .int ((gSh_ints v0) 3)) C eX7_knock_13 FX7_64 0 rfl rfl ?_
    refine r_i2l C eX7_knock_16 ?_
    refine r_aload_n C eX7_knock_17 1 rfl rfl ?_
    refine r_get (v := .int ((gSh_ints v0) 2)) C eX7_knock_18 FX7_61 0 rfl rfl ?_
    refine r_i2l C eX7_knock_21 ?_
    refine r_lmul C eX7_knock_22 ?_
    refine r_ldc2 C (v := 57296) eX7_knock_23 q763 ?_
    refine r_ldiv C eX7_knock_26 (by decide) ?_
    obtain ⟨z3, hz3, hf⟩ := zlet_of hf
    refine r_naml hz3 ?_
    refine r_lstore C [(4, .long z3), (3, .int z1), (0, .ref (a0 o0)), (1, .ref (a1 o1)), (2, .int p1)] eX7_knock_27 (by decide) rfl ?_
    refine r_aload_n C eX7_knock_29 2 rfl rfl ?_
    refine r_get (v := .int ((gSh_ints v0) 4)) C eX7_knock_30 FX7_67 0 rfl rfl ?_
    refine r_i2l C eX7_knock_33 ?_
    refine r_lload C eX7_knock_34 0 rfl ?_
    refine r_ladd C eX7_knock_36 ?_
    refine r_aload_n C eX7_knock_37 2 rfl rfl ?_
    refine r_get (v := .int ((gSh_ints v0) 5)) C eX7_knock_38 FX7_70 0 rfl rfl ?_
    refine r_iload_n C eX7_knock_41 4 rfl rfl ?_
    refine r_imul C eX7_knock_42 ?_
    refine r_sipush C (v := 573) eX7_knock_43 (by decide) ?_
    refine r_idiv C eX7_knock_46 (by decide) ?_
    refine r_i2l C eX7_knock_47 ?_
    refine r_ladd C eX7_knock_48 ?_
    refine r_ldc2 C (v := 100) eX7_knock_49 q764 ?_
    refine r_ldiv C eX7_knock_52 (by decide) ?_
    obtain ⟨z4, hz4, hf⟩ := zlet_of hf
    refine r_naml hz4 ?_
    refine r_lstore C [(6, .long z4), (4, .long z3), (3, .int z1), (0, .ref (a0 o0)), (1, .ref (a1 o1)), (2, .int p1)] eX7_knock_53 (by decide) rfl ?_
    refine r_lload C eX7_knock_55 0 rfl ?_
    refine r_aload_n C eX7_knock_57 4 rfl rfl ?_
    refine r_get (v := .int ((gQu_ints v1) 12)) C eX7_knock_58 FX7_235 6 rfl rfl ?_
    refine r_i2l C eX7_knock_61 ?_
    obtain ⟨w5, hw5, hf⟩ := zlet_of hf
    have J6 : vV x 8 0 0 (W_Sh (z_g x) a0 o0 (w5.1) (w5.2) (gLi_fast (gSh_lines v0)) (gLi_place (gSh_lines v0)) (gLi_post (gSh_lines v0)) (gLi_length (gSh_lines v0)) ++ W_Qu (z_g x) a1 o1 (gQu_ints v1) (gQu_places v1) (gQu_strengths v1)) 83 [(0, .ref (a0 o0)), (3, .int z1), (6, .long z4)] [] := by
      refine r_lload C eX7_knock_83 2 rfl ?_
      refine r_lconst C (v := 0) eX7_knock_85 (by decide) ?_
      obtain ⟨w10, hw10, hf⟩ := zlet_of hf
      have J11 : vV x 8 0 0 (W_Sh (z_g x) a0 o0 w10 (w5.2) (gLi_fast (gSh_lines v0)) (gLi_place (gSh_lines v0)) (gLi_post (gSh_lines v0)) (gLi_length (gSh_lines v0)) ++ W_Qu (z_g x) a1 o1 (gQu_ints v1) (gQu_places v1) (gQu_strengths v1)) 106 [(0, .ref (a0 o0)), (3, .int z1)] [] := by
        refine r_aload_n C eX7_knock_106 0 rfl rfl ?_
        refine r_dup C eX7_knock_107 rfl ?_
        refine r_get (v := .int (w10 1)) C eX7_knock_108 FX7_31 0 rfl rfl ?_
        refine r_iload_n C eX7_knock_111 1 rfl rfl ?_
        refine r_iadd C eX7_knock_112 ?_
        obtain ⟨z14, hz14, hf⟩ := zlet_of hf
        refine r_nami hz14 ?_
        refine r_put (ws' := W_Sh (z_g x) a0 o0 (upd w10 1 z14) (w5.2) (gLi_fast (gSh_lines v0)) (gLi_place (gSh_lines v0)) (gLi_post (gSh_lines v0)) (gLi_length (gSh_lines v0)) ++ W_Qu (z_g x) a1 o1 (gQu_ints v1) (gQu_places v1) (gQu_strengths v1)) C eX7_knock_113 PX7_31 0 rfl rfl rfl (Nat.le_of_ble_eq_true rfl) rfl ?_
        subst hf
        exact hret _ _ _ eX7_knock_116
      refine r_lcmp_le C eX7_knock_86 eX7_knock_87 (fun c12 => ?_) (fun c12 => ?_)
      · rw [if_pos c12] at hw10
        subst hw10
        refine r_sub (lv' := [(0, .ref (a0 o0)), (3, .int z1)]) [0, 1] rfl ?_
        exact J11 
      · rw [if_neg c12] at hw10
        refine r_aload_n C eX7_knock_90 0 rfl rfl ?_
        refine r_iconst C (v := 0) eX7_knock_91 (by decide) ?_
        refine r_put (ws' := W_Sh (z_g x) a0 o0 (upd (w5.1) 4 0) (w5.2) (gLi_fast (gSh_lines v0)) (gLi_place (gSh_lines v0)) (gLi_post (gSh_lines v0)) (gLi_length (gSh_lines v0)) ++ W_Qu (z_g x) a1 o1 (gQu_ints v1) (gQu_places v1) (gQu_strengths v1)) C eX7_knock_92 PX7_67 0 rfl rfl rfl (Nat.le_of_ble_eq_true rfl) rfl ?_
        refine r_aload_n C eX7_knock_95 0 rfl rfl ?_
        refine r_aload_n C eX7_knock_96 0 rfl rfl ?_
        refine r_get (v := .int ((w5.1) 5)) C eX7_knock_97 FX7_70 0 rfl rfl ?_
        refine r_iconst C (v := 3) eX7_knock_100 (by decide) ?_
        refine r_idiv C eX7_knock_101 (by decide) ?_
        refine r_ineg C eX7_knock_102 ?_
        obtain ⟨z13, hz13, hw10⟩ := zlet_of hw10
        refine r_nami hz13 ?_
        refine r_put (ws' := W_Sh (z_g x) a0 o0 (upd (upd (w5.1) 4 0) 5 z13) (w5.2) (gLi_fast (gSh_lines v0)) (gLi_place (gSh_lines v0)) (gLi_post (gSh_lines v0)) (gLi_length (gSh_lines v0)) ++ W_Qu (z_g x) a1 o1 (gQu_ints v1) (gQu_places v1) (gQu_strengths v1)) C eX7_knock_103 PX7_70 0 rfl rfl rfl (Nat.le_of_ble_eq_true rfl) rfl ?_
        subst hw10
        refine r_sub (lv' := [(0, .ref (a0 o0)), (3, .int z1)]) [0, 1] rfl ?_
        exact J11 
    refine r_lcmp_le C eX7_knock_62 eX7_knock_63 (fun c7 => ?_) (fun c7 => ?_)
    · rw [if_pos c7] at hw5
      subst hw5
      refine r_sub (lv' := [(0, .ref (a0 o0)), (3, .int z1), (6, .long z4)]) [3, 2, 0] rfl ?_
      exact J6 
    · rw [if_neg c7] at hw5
      refine r_aload_n C eX7_knock_66 3 rfl rfl ?_
      refine r_dup C eX7_knock_67 rfl ?_
      refine r_get (v := .int ((gSh_ints v0) 10)) C eX7_knock_68 FX7_37 0 rfl rfl ?_
      refine r_iconst C (v := 1) eX7_knock_71 (by decide) ?_
      refine r_iadd C eX7_knock_72 ?_
      obtain ⟨z8, hz8, hw5⟩ := zlet_of hw5
      refine r_nami hz8 ?_
      refine r_put (ws' := W_Sh (z_g x) a0 o0 (upd (gSh_ints v0) 10 z8) (gSh_harm v0) (gLi_fast (gSh_lines v0)) (gLi_place (gSh_lines v0)) (gLi_post (gSh_lines v0)) (gLi_length (gSh_lines v0)) ++ W_Qu (z_g x) a1 o1 (gQu_ints v1) (gQu_places v1) (gQu_strengths v1)) C eX7_knock_73 PX7_37 0 rfl rfl rfl (Nat.le_of_ble_eq_true rfl) rfl ?_
      refine r_aload_n C eX7_knock_76 3 rfl rfl ?_
      refine r_aload_n C eX7_knock_77 4 rfl rfl ?_
      refine r_lload C eX7_knock_78 0 rfl ?_
      obtain ⟨r9, hr9, hw5⟩ := zlet_of hw5
      refine r_V_v (ws' := W_Sh (z_g x) a0 o0 (upd (gSh_ints v0) 10 z8) r9 (gLi_fast (gSh_lines v0)) (gLi_place (gSh_lines v0)) (gLi_post (gSh_lines v0)) (gLi_length (gSh_lines v0)) ++ W_Qu (z_g x) a1 o1 (gQu_ints v1) (gQu_places v1) (gQu_strengths v1)) C (c_Sh_addHarm (z_l x) (z_g x) a0 o0 ((upd (gSh_ints v0) 10 z8), (gSh_harm v0), (gSh_lines v0)) a1 o1 v1 z4 r9 hr9) eX7_knock_80 MX7_238 ⟨0, 7, _, _, rfl, rfl, rfl⟩ [0, 1, 2, 3, 4, 5, 6, 7, 8] rfl rfl rfl rfl [] rfl trivial 9 rfl rfl rfl rfl rfl rfl ?_
      subst hw5
      refine r_sub (lv' := [(0, .ref (a0 o0)), (3, .int z1), (6, .long z4)]) [3, 2, 0] rfl ?_
      exact J6 
  · rw [if_neg c2] at hf
    subst hf
    exact hret _ _ _ eX7_knock_11
theorem eX7_lineAlong_0 : zd 1 cX7_lineAlong 0 1 (.aload_n 0) := ⟨by decide +kernel, rfl⟩
theorem eX7_lineAlong_1 : zd 3 cX7_lineAlong 1 4 (.getfield 10) := ⟨by decide +kernel, rfl⟩
theorem eX7_lineAlong_4 : zd 1 cX7_lineAlong 4 5 (.iload_n 2) := ⟨by decide +kernel, rfl⟩
theorem eX7_lineAlong_5 : zd 3 cX7_lineAlong 5 8 (.invokevirtual 119) := ⟨by decide +kernel, rfl⟩
theorem eX7_lineAlong_8 : zdi cX7_lineAlong 8 11 37 (.ifCond .eq) := ⟨29, by decide +kernel, rfl, by decide⟩
theorem eX7_lineAlong_11 : zd 1 cX7_lineAlong 11 12 (.aload_n 0) := ⟨by decide +kernel, rfl⟩
theorem eX7_lineAlong_12 : zd 1 cX7_lineAlong 12 13 (.aload_n 1) := ⟨by decide +kernel, rfl⟩
theorem eX7_lineAlong_13 : zd 1 cX7_lineAlong 13 14 (.aload_n 0) := ⟨by decide +kernel, rfl⟩
theorem eX7_lineAlong_14 : zd 3 cX7_lineAlong 14 17 (.getfield 10) := ⟨by decide +kernel, rfl⟩
theorem eX7_lineAlong_17 : zd 3 cX7_lineAlong 17 20 (.getfield 123) := ⟨by decide +kernel, rfl⟩
theorem eX7_lineAlong_20 : zd 1 cX7_lineAlong 20 21 (.iload_n 2) := ⟨by decide +kernel, rfl⟩
theorem eX7_lineAlong_21 : zd 1 cX7_lineAlong 21 22 (.iaload) := ⟨by decide +kernel, rfl⟩
theorem eX7_lineAlong_22 : zd 1 cX7_lineAlong 22 23 (.aload_n 0) := ⟨by decide +kernel, rfl⟩
theorem eX7_lineAlong_23 : zd 3 cX7_lineAlong 23 26 (.getfield 10) := ⟨by decide +kernel, rfl⟩
theorem eX7_lineAlong_26 : zd 3 cX7_lineAlong 26 29 (.getfield 126) := ⟨by decide +kernel, rfl⟩
theorem eX7_lineAlong_29 : zd 1 cX7_lineAlong 29 30 (.iload_n 2) := ⟨by decide +kernel, rfl⟩
theorem eX7_lineAlong_30 : zd 1 cX7_lineAlong 30 31 (.iaload) := ⟨by decide +kernel, rfl⟩
theorem eX7_lineAlong_31 : zd 3 cX7_lineAlong 31 34 (.invokevirtual 104) := ⟨by decide +kernel, rfl⟩
theorem eX7_lineAlong_34 : zdi cX7_lineAlong 34 37 38 (.goto) := ⟨4, by decide +kernel, rfl, by decide⟩
theorem eX7_lineAlong_37 : zd 1 cX7_lineAlong 37 38 (.iconst 0) := ⟨by decide +kernel, rfl⟩
theorem eX7_lineAlong_38 : zd 1 cX7_lineAlong 38 39 (.ireturn) := ⟨by decide +kernel, rfl⟩
theorem MX7_119 : zlV RX7 119 yX1_isFast cX1_isFast 2 ((Option.some FieldType.boolean)) 1 := ⟨q857, q798, q799, q8, q800, by decide, by decide, by decide +kernel⟩
noncomputable def f_Sh_lineAlong (v0 : tSh) (v1 : tQu) (p1 : Int32) : Option (Int32) := (Option.bind (f_Li_isFast (gSh_lines v0) p1) (fun (r1 : Int32) => (if r1 = 0 then (some 0) else (if inb p1 6 = true then (if inb p1 6 = true then (Option.bind (f_Sh_wayAlong v0 v1 ((gLi_place (gSh_lines v0)) (ix p1)) ((gLi_post (gSh_lines v0)) (ix p1))) (fun (r6 : Int32) => (some r6))) else none) else none))))
abbrev rm_Sh_lineAlong : Room := { frames := 2, cells := 0, slots := 0, locals := 44 }
set_option maxHeartbeats 4000000 in
set_option maxRecDepth 100000 in
theorem c_Sh_lineAlong (l : Launch) (g : zGl) (a0 : Nat → Nat) (o0 : Nat) (v0 : tSh) (a1 : Nat → Nat) (o1 : Nat) (v1 : tQu) (p1 : Int32) (out : Int32) (hf : f_Sh_lineAlong v0 v1 p1 = some out) : zMi l yX7_lineAlong cX7_lineAlong 3 rm_Sh_lineAlong g [.ref (a0 o0), .ref (a1 o1), .int p1] (W_Sh g a0 o0 (gSh_ints v0) (gSh_harm v0) (gLi_fast (gSh_lines v0)) (gLi_place (gSh_lines v0)) (gLi_post (gSh_lines v0)) (gLi_length (gSh_lines v0)) ++ W_Qu g a1 o1 (gQu_ints v1) (gQu_places v1) (gQu_strengths v1)) out (W_Sh g a0 o0 (gSh_ints v0) (gSh_harm v0) (gLi_fast (gSh_lines v0)) (gLi_place (gSh_lines v0)) (gLi_post (gSh_lines v0)) (gLi_length (gSh_lines v0)) ++ W_Qu g a1 o1 (gQu_ints v1) (gQu_places v1) (gQu_strengths v1)) := by
  refine zMi_of (lv := [(0, .ref (a0 o0)), (1, .ref (a1 o1)), (2, .int p1)]) (by decide) (Nat.le_of_ble_eq_true rfl) rfl (fun x hl hg C hret => ?_)
  subst hl; subst hg
  rw [f_Sh_lineAlong] at hf
  refine r_aload_n C eX7_lineAlong_0 0 rfl rfl ?_
  refine r_get (v := .ref (a0 (o0 + 1))) C eX7_lineAlong_1 FX7_10 0 rfl rfl ?_
  refine r_iload_n C eX7_lineAlong_4 2 rfl rfl ?_
  obtain ⟨r1, hr1, hf⟩ := zbind hf
  refine r_V_z (ws' := W_Sh (z_g x) a0 o0 (gSh_ints v0) (gSh_harm v0) (gLi_fast (gSh_lines v0)) (gLi_place (gSh_lines v0)) (gLi_post (gSh_lines v0)) (gLi_length (gSh_lines v0)) ++ W_Qu (z_g x) a1 o1 (gQu_ints v1) (gQu_places v1) (gQu_strengths v1)) C (c_Li_isFast (z_l x) (z_g x) a0 (o0 + 1) (gSh_lines v0) p1 r1 hr1) eX7_lineAlong_5 MX7_119 ⟨0, 1, _, _, rfl, rfl, rfl⟩ [1, 2, 3, 4, 5] rfl rfl rfl rfl [0, 6, 7, 8] rfl ⟨rfl, rfl, rfl, rfl, trivial⟩ 9 rfl rfl rfl rfl rfl rfl (fun zb2 => ?_)
  refine r_if_eq C eX7_lineAlong_8 (fun c3 => ?_) (fun c3 => ?_)
  · rw [if_pos c3] at hf
    refine r_iconst C (v := 0) eX7_lineAlong_37 (by decide) ?_
    obtain rfl := Option.some.inj (show some (0 : Int32) = some _ from hf)
    exact hret _ _ _ eX7_lineAlong_38
  · rw [if_neg c3] at hf
    refine r_aload_n C eX7_lineAlong_11 0 rfl rfl ?_
    refine r_aload_n C eX7_lineAlong_12 1 rfl rfl ?_
    refine r_aload_n C eX7_lineAlong_13 0 rfl rfl ?_
    refine r_get (v := .ref (a0 (o0 + 1))) C eX7_lineAlong_14 FX7_10 0 rfl rfl ?_
    refine r_get (v := .ref (a0 ((o0 + 1) + 2))) C eX7_lineAlong_17 FX7_123 1 rfl rfl ?_
    refine r_iload_n C eX7_lineAlong_20 2 rfl rfl ?_
    obtain ⟨hb4, hf⟩ := zchk hf
    refine r_iald C eX7_lineAlong_21 3 rfl (inb_in hb4) ((gLi_place (gSh_lines v0)) (ix p1)) rfl ?_
    refine r_aload_n C eX7_lineAlong_22 0 rfl rfl ?_
    refine r_get (v := .ref (a0 (o0 + 1))) C eX7_lineAlong_23 FX7_10 0 rfl rfl ?_
    refine r_get (v := .ref (a0 ((o0 + 1) + 3))) C eX7_lineAlong_26 FX7_126 1 rfl rfl ?_
    refine r_iload_n C eX7_lineAlong_29 2 rfl rfl ?_
    obtain ⟨hb5, hf⟩ := zchk hf
    refine r_iald C eX7_lineAlong_30 4 rfl (inb_in hb5) ((gLi_post (gSh_lines v0)) (ix p1)) rfl ?_
    obtain ⟨r6, hr6, hf⟩ := zbind hf
    refine r_V_i (ws' := W_Sh (z_g x) a0 o0 (gSh_ints v0) (gSh_harm v0) (gLi_fast (gSh_lines v0)) (gLi_place (gSh_lines v0)) (gLi_post (gSh_lines v0)) (gLi_length (gSh_lines v0)) ++ W_Qu (z_g x) a1 o1 (gQu_ints v1) (gQu_places v1) (gQu_strengths v1)) C (c_Sh_wayAlong (z_l x) (z_g x) a0 o0 v0 a1 o1 v1 ((gLi_place (gSh_lines v0)) (ix p1)) ((gLi_post (gSh_lines v0)) (ix p1)) r6 hr6) eX7_lineAlong_31 MX7_104 ⟨0, 7, _, _, rfl, rfl, rfl⟩ [0, 1, 2, 3, 4, 5, 6, 7, 8] rfl rfl rfl rfl [] rfl trivial 9 rfl rfl rfl rfl rfl rfl ?_
    refine r_goto C eX7_lineAlong_34 ?_
    obtain rfl := Option.some.inj (show some (r6 : Int32) = some _ from hf)
    exact hret _ _ _ eX7_lineAlong_38
