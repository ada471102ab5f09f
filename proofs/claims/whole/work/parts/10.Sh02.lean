theorem eX7_wayAlong_0 : zd 1 cX7_wayAlong 0 1 (.aload_n 1) := ⟨by decide +kernel, rfl⟩
theorem eX7_wayAlong_1 : zd 1 cX7_wayAlong 1 2 (.iload_n 3) := ⟨by decide +kernel, rfl⟩
theorem eX7_wayAlong_2 : zd 3 cX7_wayAlong 2 5 (.invokevirtual 96) := ⟨by decide +kernel, rfl⟩
theorem eX7_wayAlong_5 : zd 1 cX7_wayAlong 5 6 (.aload_n 0) := ⟨by decide +kernel, rfl⟩
theorem eX7_wayAlong_6 : zd 3 cX7_wayAlong 6 9 (.getfield 27) := ⟨by decide +kernel, rfl⟩
theorem eX7_wayAlong_9 : zd 1 cX7_wayAlong 9 10 (.aload_n 1) := ⟨by decide +kernel, rfl⟩
theorem eX7_wayAlong_10 : zd 1 cX7_wayAlong 10 11 (.iload_n 2) := ⟨by decide +kernel, rfl⟩
theorem eX7_wayAlong_11 : zd 3 cX7_wayAlong 11 14 (.invokevirtual 101) := ⟨by decide +kernel, rfl⟩
theorem eX7_wayAlong_14 : zd 1 cX7_wayAlong 14 15 (.iadd) := ⟨by decide +kernel, rfl⟩
theorem eX7_wayAlong_15 : zd 1 cX7_wayAlong 15 16 (.isub) := ⟨by decide +kernel, rfl⟩
theorem eX7_wayAlong_16 : zd 1 cX7_wayAlong 16 17 (.ireturn) := ⟨by decide +kernel, rfl⟩
theorem MX7_96 : zlV RX7 96 yX4_postPlace cX4_postPlace 2 ((Option.some FieldType.int)) 1 := ⟨q732, q651, q652, q4, q653, by decide, by decide, by decide +kernel⟩
theorem MX7_101 : zlV RX7 101 yX4_arm cX4_arm 2 ((Option.some FieldType.int)) 1 := ⟨q710, q688, q689, q4, q690, by decide, by decide, by decide +kernel⟩
noncomputable def f_Sh_wayAlong (v0 : tSh) (v1 : tQu) (p1 : Int32) (p2 : Int32) : Option (Int32) := (Option.bind (f_Qu_postPlace v1 p2) (fun (r1 : Int32) => (some (r1 - (((gSh_ints v0) 0) + (f_Qu_arm v1 p1))))))
abbrev rm_Sh_wayAlong : Room := { frames := 1, cells := 0, slots := 0, locals := 21 }
set_option maxHeartbeats 4000000 in
set_option maxRecDepth 100000 in
theorem c_Sh_wayAlong (l : Launch) (g : zGl) (a0 : Nat → Nat) (o0 : Nat) (v0 : tSh) (a1 : Nat → Nat) (o1 : Nat) (v1 : tQu) (p1 : Int32) (p2 : Int32) (out : Int32) (hf : f_Sh_wayAlong v0 v1 p1 p2 = some out) : zMi l yX7_wayAlong cX7_wayAlong 4 rm_Sh_wayAlong g [.ref (a0 o0), .ref (a1 o1), .int p1, .int p2] (W_Sh g a0 o0 (gSh_ints v0) (gSh_harm v0) (gLi_fast (gSh_lines v0)) (gLi_place (gSh_lines v0)) (gLi_post (gSh_lines v0)) (gLi_length (gSh_lines v0)) ++ W_Qu g a1 o1 (gQu_ints v1) (gQu_places v1) (gQu_strengths v1)) out (W_Sh g a0 o0 (gSh_ints v0) (gSh_harm v0) (gLi_fast (gSh_lines v0)) (gLi_place (gSh_lines v0)) (gLi_post (gSh_lines v0)) (gLi_length (gSh_lines v0)) ++ W_Qu g a1 o1 (gQu_ints v1) (gQu_places v1) (gQu_strengths v1)) := by
  refine zMi_of (lv := [(0, .ref (a0 o0)), (1, .ref (a1 o1)), (2, .int p1), (3, .int p2)]) (by decide) (Nat.le_of_ble_eq_true rfl) rfl (fun x hl hg C hret => ?_)
  subst hl; subst hg
  rw [f_Sh_wayAlong] at hf
  refine r_aload_n C eX7_wayAlong_0 1 rfl rfl ?_
  refine r_iload_n C eX7_wayAlong_1 3 rfl rfl ?_
  obtain ⟨r1, hr1, hf⟩ := zbind hf
  refine r_V_i (ws' := W_Sh (z_g x) a0 o0 (gSh_ints v0) (gSh_harm v0) (gLi_fast (gSh_lines v0)) (gLi_place (gSh_lines v0)) (gLi_post (gSh_lines v0)) (gLi_length (gSh_lines v0)) ++ W_Qu (z_g x) a1 o1 (gQu_ints v1) (gQu_places v1) (gQu_strengths v1)) C (c_Qu_postPlace (z_l x) (z_g x) a1 o1 v1 p2 r1 hr1) eX7_wayAlong_2 MX7_96 ⟨0, 4, _, _, rfl, rfl, rfl⟩ [6, 7, 8] rfl rfl rfl rfl [0, 1, 2, 3, 4, 5] rfl ⟨rfl, rfl, rfl, rfl, rfl, rfl, trivial⟩ 9 rfl rfl rfl rfl rfl rfl ?_
  refine r_aload_n C eX7_wayAlong_5 0 rfl rfl ?_
  refine r_get (v := .int ((gSh_ints v0) 0)) C eX7_wayAlong_6 FX7_27 0 rfl rfl ?_
  refine r_aload_n C eX7_wayAlong_9 1 rfl rfl ?_
  refine r_iload_n C eX7_wayAlong_10 2 rfl rfl ?_
  refine r_V_i (ws' := W_Sh (z_g x) a0 o0 (gSh_ints v0) (gSh_harm v0) (gLi_fast (gSh_lines v0)) (gLi_place (gSh_lines v0)) (gLi_post (gSh_lines v0)) (gLi_length (gSh_lines v0)) ++ W_Qu (z_g x) a1 o1 (gQu_ints v1) (gQu_places v1) (gQu_strengths v1)) C (c_Qu_arm (z_l x) (z_g x) a1 o1 v1 p1 _ rfl) eX7_wayAlong_11 MX7_101 ⟨0, 4, _, _, rfl, rfl, rfl⟩ [6, 7, 8] rfl rfl rfl rfl [0, 1, 2, 3, 4, 5] rfl ⟨rfl, rfl, rfl, rfl, rfl, rfl, trivial⟩ 9 rfl rfl rfl rfl rfl rfl ?_
  refine r_iadd C eX7_wayAlong_14 ?_
  refine r_isub C eX7_wayAlong_15 ?_
  obtain rfl := Option.some.inj (show some ((r1 - (((gSh_ints v0) 0) + (f_Qu_arm v1 p1))) : Int32) = some _ from hf)
  exact hret _ _ _ eX7_wayAlong_16
theorem eX7_unheldOff_0 : zd 1 cX7_unheldOff 0 1 (.aload_n 0) := ⟨by decide +kernel, rfl⟩
theorem eX7_unheldOff_1 : zd 3 cX7_unheldOff 1 4 (.getfield 31) := ⟨by decide +kernel, rfl⟩
theorem eX7_unheldOff_4 : zd 1 cX7_unheldOff 4 5 (.iload_n 1) := ⟨by decide +kernel, rfl⟩
theorem eX7_unheldOff_5 : zd 1 cX7_unheldOff 5 6 (.aload_n 0) := ⟨by decide +kernel, rfl⟩
theorem eX7_unheldOff_6 : zd 3 cX7_unheldOff 6 9 (.getfield 61) := ⟨by decide +kernel, rfl⟩
theorem eX7_unheldOff_9 : zd 1 cX7_unheldOff 9 10 (.imul) := ⟨by decide +kernel, rfl⟩
theorem eX7_unheldOff_10 : zd 2 cX7_unheldOff 10 12 (.ldc 86) := ⟨by decide +kernel, rfl⟩
theorem eX7_unheldOff_12 : zd 1 cX7_unheldOff 12 13 (.idiv) := ⟨by decide +kernel, rfl⟩
theorem eX7_unheldOff_13 : zd 1 cX7_unheldOff 13 14 (.isub) := ⟨by decide +kernel, rfl⟩
theorem eX7_unheldOff_14 : zd 1 cX7_unheldOff 14 15 (.ireturn) := ⟨by decide +kernel, rfl⟩
noncomputable def f_Sh_unheldOff (v0 : tSh) (p1 : Int32) : Int32 := (((gSh_ints v0) 1) - ((p1 * ((gSh_ints v0) 2)) / 57296))
abbrev rm_Sh_unheldOff : Room := { frames := 0, cells := 0, slots := 0, locals := 0 }
set_option maxHeartbeats 4000000 in
set_option maxRecDepth 100000 in
theorem c_Sh_unheldOff (l : Launch) (g : zGl) (a0 : Nat → Nat) (o0 : Nat) (v0 : tSh) (p1 : Int32) (out : Int32) (hf : f_Sh_unheldOff v0 p1 = out) : zMi l yX7_unheldOff cX7_unheldOff 2 rm_Sh_unheldOff g [.ref (a0 o0), .int p1] (W_Sh g a0 o0 (gSh_ints v0) (gSh_harm v0) (gLi_fast (gSh_lines v0)) (gLi_place (gSh_lines v0)) (gLi_post (gSh_lines v0)) (gLi_length (gSh_lines v0))) out (W_Sh g a0 o0 (gSh_ints v0) (gSh_harm v0) (gLi_fast (gSh_lines v0)) (gLi_place (gSh_lines v0)) (gLi_post (gSh_lines v0)) (gLi_length (gSh_lines v0))) := by
  refine zMi_of (lv := [(0, .ref (a0 o0)), (1, .int p1)]) (by decide) (Nat.le_of_ble_eq_true rfl) rfl (fun x hl hg C hret => ?_)
  subst hl; subst hg
  rw [f_Sh_unheldOff] at hf
  refine r_aload_n C eX7_unheldOff_0 0 rfl rfl ?_
  refine r_get (v := .int ((gSh_ints v0) 1)) C eX7_unheldOff_1 FX7_31 0 rfl rfl ?_
  refine r_iload_n C eX7_unheldOff_4 1 rfl rfl ?_
  refine r_aload_n C eX7_unheldOff_5 0 rfl rfl ?_
  refine r_get (v := .int ((gSh_ints v0) 2)) C eX7_unheldOff_6 FX7_61 0 rfl rfl ?_
  refine r_imul C eX7_unheldOff_9 ?_
  refine r_ldc C (v := 57296) eX7_unheldOff_10 q699 ?_
  refine r_idiv C eX7_unheldOff_12 (by decide) ?_
  refine r_isub C eX7_unheldOff_13 ?_
  subst hf
  exact hret _ _ _ eX7_unheldOff_14
theorem eX7_wayOff_0 : zd 1 cX7_wayOff 0 1 (.iconst 0) := ⟨by decide +kernel, rfl⟩
theorem eX7_wayOff_1 : zd 1 cX7_wayOff 1 2 (.aload_n 0) := ⟨by decide +kernel, rfl⟩
theorem eX7_wayOff_2 : zd 1 cX7_wayOff 2 3 (.iload_n 1) := ⟨by decide +kernel, rfl⟩
theorem eX7_wayOff_3 : zd 3 cX7_wayOff 3 6 (.invokevirtual 87) := ⟨by decide +kernel, rfl⟩
theorem eX7_wayOff_6 : zd 3 cX7_wayOff 6 9 (.invokestatic 90) := ⟨by decide +kernel, rfl⟩
theorem eX7_wayOff_9 : zd 1 cX7_wayOff 9 10 (.ireturn) := ⟨by decide +kernel, rfl⟩
theorem MX7_87 : zlV RX7 87 yX7_unheldOff cX7_unheldOff 2 ((Option.some FieldType.int)) 1 := ⟨q695, q697, qs10, q7, q698, by decide, by decide, by decide +kernel⟩
theorem MX7_90 : Cond.methodLink RX7 90 Lib.Math.max.name ∈ TB ∧ Cond.static Lib.Math.max.name ∈ TB ∧ Cond.initialized "java/lang/Math" ∈ TB ∧ Cond.code Lib.Math.max.name Lib.Math.max.code 2 (some .int) ∈ TB := ⟨q700, q701, q18, q702⟩
noncomputable def f_Sh_wayOff (v0 : tSh) (p1 : Int32) : Int32 := (zmax 0 (f_Sh_unheldOff v0 p1))
abbrev rm_Sh_wayOff : Room := { frames := 1, cells := 0, slots := 0, locals := 21 }
set_option maxHeartbeats 4000000 in
set_option maxRecDepth 100000 in
theorem c_Sh_wayOff (l : Launch) (g : zGl) (a0 : Nat → Nat) (o0 : Nat) (v0 : tSh) (p1 : Int32) (out : Int32) (hf : f_Sh_wayOff v0 p1 = out) : zMi l yX7_wayOff cX7_wayOff 2 rm_Sh_wayOff g [.ref (a0 o0), .int p1] (W_Sh g a0 o0 (gSh_ints v0) (gSh_harm v0) (gLi_fast (gSh_lines v0)) (gLi_place (gSh_lines v0)) (gLi_post (gSh_lines v0)) (gLi_length (gSh_lines v0))) out (W_Sh g a0 o0 (gSh_ints v0) (gSh_harm v0) (gLi_fast (gSh_lines v0)) (gLi_place (gSh_lines v0)) (gLi_post (gSh_lines v0)) (gLi_length (gSh_lines v0))) := by
  refine zMi_of (lv := [(0, .ref (a0 o0)), (1, .int p1)]) (by decide) (Nat.le_of_ble_eq_true rfl) rfl (fun x hl hg C hret => ?_)
  subst hl; subst hg
  rw [f_Sh_wayOff] at hf
  refine r_iconst C (v := 0) eX7_wayOff_0 (by decide) ?_
  refine r_aload_n C eX7_wayOff_1 0 rfl rfl ?_
  refine r_iload_n C eX7_wayOff_2 1 rfl rfl ?_
  refine r_V_i (ws' := W_Sh (z_g x) a0 o0 (gSh_ints v0) (gSh_harm v0) (gLi_fast (gSh_lines v0)) (gLi_place (gSh_lines v0)) (gLi_post (gSh_lines v0)) (gLi_length (gSh_lines v0))) C (c_Sh_unheldOff (z_l x) (z_g x) a0 o0 v0 p1 _ rfl) eX7_wayOff_3 MX7_87 ⟨0, 7, _, _, rfl, rfl, rfl⟩ [0, 1, 2, 3, 4, 5] rfl rfl rfl rfl [] rfl trivial 6 rfl rfl rfl rfl rfl rfl ?_
  refine r_mmax C eX7_wayOff_6 MX7_90 rfl ?_
  subst hf
  exact hret _ _ _ eX7_wayOff_9
theorem eX7_distance_0 : zd 1 cX7_distance 0 1 (.aload_n 0) := ⟨by decide +kernel, rfl⟩
theorem eX7_distance_1 : zd 1 cX7_distance 1 2 (.aload_n 1) := ⟨by decide +kernel, rfl⟩
theorem eX7_distance_2 : zd 1 cX7_distance 2 3 (.iload_n 2) := ⟨by decide +kernel, rfl⟩
theorem eX7_distance_3 : zd 1 cX7_distance 3 4 (.iload_n 3) := ⟨by decide +kernel, rfl⟩
theorem eX7_distance_4 : zd 3 cX7_distance 4 7 (.invokevirtual 104) := ⟨by decide +kernel, rfl⟩
theorem eX7_distance_7 : zd 1 cX7_distance 7 8 (.aload_n 0) := ⟨by decide +kernel, rfl⟩
theorem eX7_distance_8 : zd 1 cX7_distance 8 9 (.aload_n 1) := ⟨by decide +kernel, rfl⟩
theorem eX7_distance_9 : zd 1 cX7_distance 9 10 (.iload_n 2) := ⟨by decide +kernel, rfl⟩
theorem eX7_distance_10 : zd 3 cX7_distance 10 13 (.invokevirtual 101) := ⟨by decide +kernel, rfl⟩
theorem eX7_distance_13 : zd 3 cX7_distance 13 16 (.invokevirtual 108) := ⟨by decide +kernel, rfl⟩
theorem eX7_distance_16 : zd 3 cX7_distance 16 19 (.invokestatic 111) := ⟨by decide +kernel, rfl⟩
theorem eX7_distance_19 : zd 1 cX7_distance 19 20 (.ireturn) := ⟨by decide +kernel, rfl⟩
theorem MX7_104 : zlV RX7 104 yX7_wayAlong cX7_wayAlong 4 ((Option.some FieldType.int)) 3 := ⟨q806, q807, q808, q7, q809, by decide, by decide, by decide +kernel⟩
theorem MX7_108 : zlV RX7 108 yX7_wayOff cX7_wayOff 2 ((Option.some FieldType.int)) 1 := ⟨q715, q692, q693, q7, q694, by decide, by decide, by decide +kernel⟩
theorem MX7_111 : zlN RX7 111 yX10_rootOfSquares cX10_rootOfSquares 9 ((Option.some FieldType.int)) 2 := ⟨⟨_, qn733⟩, q734, q1, q735, by decide, by decide, by decide +kernel⟩
noncomputable def f_Sh_distance (v0 : tSh) (v1 : tQu) (p1 : Int32) (p2 : Int32) : Option (Int32) := (Option.bind (f_Sh_wayAlong v0 v1 p1 p2) (fun (r1 : Int32) => (Option.bind (f_AL_rootOfSquares r1 (f_Sh_wayOff v0 (f_Qu_arm v1 p1))) (fun (r2 : Int32) => (some r2)))))
abbrev rm_Sh_distance : Room := { frames := 2, cells := 0, slots := 0, locals := 49 }
set_option maxHeartbeats 4000000 in
set_option maxRecDepth 100000 in
theorem c_Sh_distance (l : Launch) (g : zGl) (a0 : Nat → Nat) (o0 : Nat) (v0 : tSh) (a1 : Nat → Nat) (o1 : Nat) (v1 : tQu) (p1 : Int32) (p2 : Int32) (out : Int32) (hf : f_Sh_distance v0 v1 p1 p2 = some out) : zMi l yX7_distance cX7_distance 4 rm_Sh_distance g [.ref (a0 o0), .ref (a1 o1), .int p1, .int p2] (W_Sh g a0 o0 (gSh_ints v0) (gSh_harm v0) (gLi_fast (gSh_lines v0)) (gLi_place (gSh_lines v0)) (gLi_post (gSh_lines v0)) (gLi_length (gSh_lines v0)) ++ W_Qu g a1 o1 (gQu_ints v1) (gQu_places v1) (gQu_strengths v1)) out (W_Sh g a0 o0 (gSh_ints v0) (gSh_harm v0) (gLi_fast (gSh_lines v0)) (gLi_place (gSh_lines v0)) (gLi_post (gSh_lines v0)) (gLi_length (gSh_lines v0)) ++ W_Qu g a1 o1 (gQu_ints v1) (gQu_places v1) (gQu_strengths v1)) := by
  refine zMi_of (lv := [(0, .ref (a0 o0)), (1, .ref (a1 o1)), (2, .int p1), (3, .int p2)]) (by decide) (Nat.le_of_ble_eq_true rfl) rfl (fun x hl hg C hret => ?_)
  subst hl; subst hg
  rw [f_Sh_distance] at hf
  refine r_aload_n C eX7_distance_0 0 rfl rfl ?_
  refine r_aload_n C eX7_distance_1 1 rfl rfl ?_
  refine r_iload_n C eX7_distance_2 2 rfl rfl ?_
  refine r_iload_n C eX7_distance_3 3 rfl rfl ?_
  obtain ⟨r1, hr1, hf⟩ := zbind hf
  refine r_V_i (ws' := W_Sh (z_g x) a0 o0 (gSh_ints v0) (gSh_harm v0) (gLi_fast (gSh_lines v0)) (gLi_place (gSh_lines v0)) (gLi_post (gSh_lines v0)) (gLi_length (gSh_lines v0)) ++ W_Qu (z_g x) a1 o1 (gQu_ints v1) (gQu_places v1) (gQu_strengths v1)) C (c_Sh_wayAlong (z_l x) (z_g x) a0 o0 v0 a1 o1 v1 p1 p2 r1 hr1) eX7_distance_4 MX7_104 ⟨0, 7, _, _, rfl, rfl, rfl⟩ [0, 1, 2, 3, 4, 5, 6, 7, 8] rfl rfl rfl rfl [] rfl trivial 9 rfl rfl rfl rfl rfl rfl ?_
  refine r_aload_n C eX7_distance_7 0 rfl rfl ?_
  refine r_aload_n C eX7_distance_8 1 rfl rfl ?_
  refine r_iload_n C eX7_distance_9 2 rfl rfl ?_
  refine r_V_i (ws' := W_Sh (z_g x) a0 o0 (gSh_ints v0) (gSh_harm v0) (gLi_fast (gSh_lines v0)) (gLi_place (gSh_lines v0)) (gLi_post (gSh_lines v0)) (gLi_length (gSh_lines v0)) ++ W_Qu (z_g x) a1 o1 (gQu_ints v1) (gQu_places v1) (gQu_strengths v1)) C (c_Qu_arm (z_l x) (z_g x) a1 o1 v1 p1 _ rfl) eX7_distance_10 MX7_101 ⟨0, 4, _, _, rfl, rfl, rfl⟩ [6, 7, 8] rfl rfl rfl rfl [0, 1, 2, 3, 4, 5] rfl ⟨rfl, rfl, rfl, rfl, rfl, rfl, trivial⟩ 9 rfl rfl rfl rfl rfl rfl ?_
  refine r_V_i (ws' := W_Sh (z_g x) a0 o0 (gSh_ints v0) (gSh_harm v0) (gLi_fast (gSh_lines v0)) (gLi_place (gSh_lines v0)) (gLi_post (gSh_lines v0)) (gLi_length (gSh_lines v0)) ++ W_Qu (z_g x) a1 o1 (gQu_ints v1) (gQu_places v1) (gQu_strengths v1)) C (c_Sh_wayOff (z_l x) (z_g x) a0 o0 v0 (f_Qu_arm v1 p1) _ rfl) eX7_distance_13 MX7_108 ⟨0, 7, _, _, rfl, rfl, rfl⟩ [0, 1, 2, 3, 4, 5] rfl rfl rfl rfl [6, 7, 8] rfl ⟨rfl, rfl, rfl, trivial⟩ 9 rfl rfl rfl rfl rfl rfl ?_
  obtain ⟨r2, hr2, hf⟩ := zbind hf
  refine r_N_i (ws' := W_Sh (z_g x) a0 o0 (gSh_ints v0) (gSh_harm v0) (gLi_fast (gSh_lines v0)) (gLi_place (gSh_lines v0)) (gLi_post (gSh_lines v0)) (gLi_length (gSh_lines v0)) ++ W_Qu (z_g x) a1 o1 (gQu_ints v1) (gQu_places v1) (gQu_strengths v1)) C (c_AL_rootOfSquares (z_l x) (z_g x)  r1 (f_Sh_wayOff v0 (f_Qu_arm v1 p1)) r2 hr2) eX7_distance_16 MX7_111 [] rfl rfl rfl rfl [0, 1, 2, 3, 4, 5, 6, 7, 8] rfl ⟨rfl, rfl, rfl, rfl, rfl, rfl, rfl, rfl, rfl, trivial⟩ 9 rfl rfl rfl rfl rfl rfl ?_
  obtain rfl := Option.some.inj (show some (r2 : Int32) = some _ from hf)
  exact hret _ _ _ eX7_distance_19
theorem eX7_drawOfHundred_0 : zd 1 cX7_drawOfHundred 0 1 (.aload_n 0) := ⟨by decide +kernel, rfl⟩
theorem eX7_drawOfHundred_1 : zd 1 cX7_drawOfHundred 1 2 (.aload_n 0) := ⟨by decide +kernel, rfl⟩
theorem eX7_drawOfHundred_2 : zd 3 cX7_drawOfHundred 2 5 (.getfield 54) := ⟨by decide +kernel, rfl⟩
theorem eX7_drawOfHundred_5 : zd 1 cX7_drawOfHundred 5 6 (.i2l) := ⟨by decide +kernel, rfl⟩
theorem eX7_drawOfHundred_6 : zd 3 cX7_drawOfHundred 6 9 (.ldc2_w 142) := ⟨by decide +kernel, rfl⟩
theorem eX7_drawOfHundred_9 : zd 1 cX7_drawOfHundred 9 10 (.lmul) := ⟨by decide +kernel, rfl⟩
theorem eX7_drawOfHundred_10 : zd 3 cX7_drawOfHundred 10 13 (.ldc2_w 144) := ⟨by decide +kernel, rfl⟩
theorem eX7_drawOfHundred_13 : zd 1 cX7_drawOfHundred 13 14 (.ladd) := ⟨by decide +kernel, rfl⟩
theorem eX7_drawOfHundred_14 : zd 3 cX7_drawOfHundred 14 17 (.ldc2_w 146) := ⟨by decide +kernel, rfl⟩
theorem eX7_drawOfHundred_17 : zd 1 cX7_drawOfHundred 17 18 (.land) := ⟨by decide +kernel, rfl⟩
theorem eX7_drawOfHundred_18 : zd 1 cX7_drawOfHundred 18 19 (.l2i) := ⟨by decide +kernel, rfl⟩
theorem eX7_drawOfHundred_19 : zd 3 cX7_drawOfHundred 19 22 (.putfield 54) := ⟨by decide +kernel, rfl⟩
theorem eX7_drawOfHundred_22 : zd 1 cX7_drawOfHundred 22 23 (.aload_n 0) := ⟨by decide +kernel, rfl⟩
theorem eX7_drawOfHundred_23 : zd 3 cX7_drawOfHundred 23 26 (.getfield 54) := ⟨by decide +kernel, rfl⟩
theorem eX7_drawOfHundred_26 : zd 2 cX7_drawOfHundred 26 28 (.ldc 148) := ⟨by decide +kernel, rfl⟩
theorem eX7_drawOfHundred_28 : zd 1 cX7_drawOfHundred 28 29 (.idiv) := ⟨by decide +kernel, rfl⟩
theorem eX7_drawOfHundred_29 : zd 2 cX7_drawOfHundred 29 31 (.bipush 100) := ⟨by decide +kernel, rfl⟩
theorem eX7_drawOfHundred_31 : zd 1 cX7_drawOfHundred 31 32 (.irem) := ⟨by decide +kernel, rfl⟩
theorem eX7_drawOfHundred_32 : zd 1 cX7_drawOfHundred 32 33 (.ireturn) := ⟨by decide +kernel, rfl⟩
noncomputable def f_Sh_drawOfHundred (v0 : tSh)  : Int32 × (Nat → Int32) := (zlet (((((gSh_ints v0) 12).toInt64 * 1103515245) + 12345) &&& 2147483647).toInt32 (fun (z1 : Int32) => (((z1 / 65536) - (z1 / 65536) / 100 * 100), (upd (gSh_ints v0) 12 z1))))
abbrev rm_Sh_drawOfHundred : Room := { frames := 0, cells := 0, slots := 0, locals := 0 }
set_option maxHeartbeats 4000000 in
set_option maxRecDepth 100000 in
theorem c_Sh_drawOfHundred (l : Launch) (g : zGl) (a0 : Nat → Nat) (o0 : Nat) (v0 : tSh)  (out : Int32 × (Nat → Int32)) (hf : f_Sh_drawOfHundred v0 = out) : zMi l yX7_drawOfHundred cX7_drawOfHundred 1 rm_Sh_drawOfHundred g [.ref (a0 o0)] (W_Sh g a0 o0 (gSh_ints v0) (gSh_harm v0) (gLi_fast (gSh_lines v0)) (gLi_place (gSh_lines v0)) (gLi_post (gSh_lines v0)) (gLi_length (gSh_lines v0))) (out.1) (W_Sh g a0 o0 (out.2) (gSh_harm v0) (gLi_fast (gSh_lines v0)) (gLi_place (gSh_lines v0)) (gLi_post (gSh_lines v0)) (gLi_length (gSh_lines v0))) := by
  refine zMi_of (lv := [(0, .ref (a0 o0))]) (by decide) (Nat.le_of_ble_eq_true rfl) rfl (fun x hl hg C hret => ?_)
  subst hl; subst hg
  rw [f_Sh_drawOfHundred] at hf
  refine r_aload_n C eX7_drawOfHundred_0 0 rfl rfl ?_
  refine r_aload_n C eX7_drawOfHundred_1 0 rfl rfl ?_
  refine r_get (v := .int ((gSh_ints v0) 12)) C eX7_drawOfHundred_2 FX7_54 0 rfl rfl ?_
  refine r_i2l C eX7_drawOfHundred_5 ?_
  refine r_ldc2 C (v := 1103515245) eX7_drawOfHundred_6 q826 ?_
  refine r_lmul C eX7_drawOfHundred_9 ?_
  refine r_ldc2 C (v := 12345) eX7_drawOfHundred_10 q827 ?_
  refine r_ladd C eX7_drawOfHundred_13 ?_
  refine r_ldc2 C (v := 2147483647) eX7_drawOfHundred_14 q828 ?_
  refine r_land C eX7_drawOfHundred_17 ?_
  refine r_l2i C eX7_drawOfHundred_18 ?_
  obtain ⟨z1, hz1, hf⟩ := zlet_of hf
  refine r_nami hz1 ?_
  refine r_put (ws' := W_Sh (z_g x) a0 o0 (upd (gSh_ints v0) 12 z1) (gSh_harm v0) (gLi_fast (gSh_lines v0)) (gLi_place (gSh_lines v0)) (gLi_post (gSh_lines v0)) (gLi_length (gSh_lines v0))) C eX7_drawOfHundred_19 PX7_54 0 rfl rfl rfl (Nat.le_of_ble_eq_true rfl) rfl ?_
  refine r_aload_n C eX7_drawOfHundred_22 0 rfl rfl ?_
  refine r_get (v := .int z1) C eX7_drawOfHundred_23 FX7_54 0 rfl rfl ?_
  refine r_ldc C (v := 65536) eX7_drawOfHundred_26 q829 ?_
  refine r_idiv C eX7_drawOfHundred_28 (by decide) ?_
  refine r_bipush C (v := 100) eX7_drawOfHundred_29 (by decide) ?_
  refine r_irem C eX7_drawOfHundred_31 (by decide) ?_
  subst hf
  exact hret _ _ _ eX7_drawOfHundred_32
theorem eX7_effectOf_0 : zd 1 cX7_effectOf 0 1 (.aload_n 0) := ⟨by decide +kernel, rfl⟩
theorem eX7_effectOf_1 : zd 1 cX7_effectOf 1 2 (.aload_n 1) := ⟨by decide +kernel, rfl⟩
theorem eX7_effectOf_2 : zd 1 cX7_effectOf 2 3 (.iload_n 2) := ⟨by decide +kernel, rfl⟩
theorem eX7_effectOf_3 : zd 1 cX7_effectOf 3 4 (.iload_n 3) := ⟨by decide +kernel, rfl⟩
theorem eX7_effectOf_4 : zd 3 cX7_effectOf 4 7 (.invokevirtual 104) := ⟨by decide +kernel, rfl⟩
theorem eX7_effectOf_7 : zd 2 cX7_effectOf 7 9 (.istore 4) := ⟨by decide +kernel, rfl⟩
theorem eX7_effectOf_9 : zd 2 cX7_effectOf 9 11 (.iload 4) := ⟨by decide +kernel, rfl⟩
theorem eX7_effectOf_11 : zdi cX7_effectOf 11 14 18 (.ifCond .le) := ⟨7, by decide +kernel, rfl, by decide⟩
theorem eX7_effectOf_14 : zd 1 cX7_effectOf 14 15 (.iconst 1) := ⟨by decide +kernel, rfl⟩
theorem eX7_effectOf_15 : zdi cX7_effectOf 15 18 28 (.goto) := ⟨13, by decide +kernel, rfl, by decide⟩
theorem eX7_effectOf_18 : zd 2 cX7_effectOf 18 20 (.iload 4) := ⟨by decide +kernel, rfl⟩
theorem eX7_effectOf_20 : zdi cX7_effectOf 20 23 27 (.ifCond .ge) := ⟨7, by decide +kernel, rfl, by decide⟩
theorem eX7_effectOf_23 : zd 1 cX7_effectOf 23 24 (.iconst 2) := ⟨by decide +kernel, rfl⟩
theorem eX7_effectOf_24 : zdi cX7_effectOf 24 27 28 (.goto) := ⟨4, by decide +kernel, rfl, by decide⟩
theorem eX7_effectOf_27 : zd 1 cX7_effectOf 27 28 (.iconst 0) := ⟨by decide +kernel, rfl⟩
theorem eX7_effectOf_28 : zd 2 cX7_effectOf 28 30 (.istore 5) := ⟨by decide +kernel, rfl⟩
theorem eX7_effectOf_30 : zd 1 cX7_effectOf 30 31 (.aload_n 0) := ⟨by decide +kernel, rfl⟩
theorem eX7_effectOf_31 : zd 1 cX7_effectOf 31 32 (.aload_n 1) := ⟨by decide +kernel, rfl⟩
theorem eX7_effectOf_32 : zd 1 cX7_effectOf 32 33 (.iload_n 2) := ⟨by decide +kernel, rfl⟩
theorem eX7_effectOf_33 : zd 3 cX7_effectOf 33 36 (.invokevirtual 101) := ⟨by decide +kernel, rfl⟩
theorem eX7_effectOf_36 : zd 3 cX7_effectOf 36 39 (.invokevirtual 108) := ⟨by decide +kernel, rfl⟩
theorem eX7_effectOf_39 : zdi cX7_effectOf 39 42 72 (.ifCond .le) := ⟨33, by decide +kernel, rfl, by decide⟩
theorem eX7_effectOf_42 : zd 2 cX7_effectOf 42 44 (.iload 5) := ⟨by decide +kernel, rfl⟩
theorem eX7_effectOf_44 : zd 1 cX7_effectOf 44 45 (.iconst 4) := ⟨by decide +kernel, rfl⟩
theorem eX7_effectOf_45 : zd 1 cX7_effectOf 45 46 (.ior) := ⟨by decide +kernel, rfl⟩
theorem eX7_effectOf_46 : zd 2 cX7_effectOf 46 48 (.istore 5) := ⟨by decide +kernel, rfl⟩
theorem eX7_effectOf_48 : zd 2 cX7_effectOf 48 50 (.iload 5) := ⟨by decide +kernel, rfl⟩
theorem eX7_effectOf_50 : zd 1 cX7_effectOf 50 51 (.iload_n 2) := ⟨by decide +kernel, rfl⟩
theorem eX7_effectOf_51 : zdi cX7_effectOf 51 54 59 (.ifCond .le) := ⟨8, by decide +kernel, rfl, by decide⟩
theorem eX7_effectOf_54 : zd 2 cX7_effectOf 54 56 (.bipush 8) := ⟨by decide +kernel, rfl⟩
theorem eX7_effectOf_56 : zdi cX7_effectOf 56 59 69 (.goto) := ⟨13, by decide +kernel, rfl, by decide⟩
theorem eX7_effectOf_59 : zd 1 cX7_effectOf 59 60 (.iload_n 2) := ⟨by decide +kernel, rfl⟩
theorem eX7_effectOf_60 : zdi cX7_effectOf 60 63 68 (.ifCond .ge) := ⟨8, by decide +kernel, rfl, by decide⟩
theorem eX7_effectOf_63 : zd 2 cX7_effectOf 63 65 (.bipush 16) := ⟨by decide +kernel, rfl⟩
theorem eX7_effectOf_65 : zdi cX7_effectOf 65 68 69 (.goto) := ⟨4, by decide +kernel, rfl, by decide⟩
theorem eX7_effectOf_68 : zd 1 cX7_effectOf 68 69 (.iconst 0) := ⟨by decide +kernel, rfl⟩
theorem eX7_effectOf_69 : zd 1 cX7_effectOf 69 70 (.ior) := ⟨by decide +kernel, rfl⟩
theorem eX7_effectOf_70 : zd 2 cX7_effectOf 70 72 (.istore 5) := ⟨by decide +kernel, rfl⟩
theorem eX7_effectOf_72 : zd 2 cX7_effectOf 72 74 (.iload 5) := ⟨by decide +kernel, rfl⟩
theorem eX7_effectOf_74 : zd 1 cX7_effectOf 74 75 (.ireturn) := ⟨by decide +kernel, rfl⟩
noncomputable def f_Sh_effectOf (v0 : tSh) (v1 : tQu) (p1 : Int32) (p2 : Int32) : Option (Int32) := (Option.bind (f_Sh_wayAlong v0 v1 p1 p2) (fun (r1 : Int32) => (zlet (if r1 ≤ 0 then (if 0 ≤ r1 then 0 else 2) else 1) (fun (w2 : Int32) => (if (f_Sh_wayOff v0 (f_Qu_arm v1 p1)) ≤ 0 then (some w2) else (zlet (w2 ||| 4) (fun (z7 : Int32) => (if p1 ≤ 0 then (if 0 ≤ p1 then (zlet (z7 ||| 0) (fun (z10 : Int32) => (some z10))) else (zlet (z7 ||| 16) (fun (z11 : Int32) => (some z11)))) else (zlet (z7 ||| 8) (fun (z12 : Int32) => (some z12)))))))))))
abbrev rm_Sh_effectOf : Room := { frames := 2, cells := 0, slots := 0, locals := 44 }
set_option maxHeartbeats 4000000 in
set_option maxRecDepth 100000 in
theorem c_Sh_effectOf (l : Launch) (g : zGl) (a0 : Nat → Nat) (o0 : Nat) (v0 : tSh) (a1 : Nat → Nat) (o1 : Nat) (v1 : tQu) (p1 : Int32) (p2 : Int32) (out : Int32) (hf : f_Sh_effectOf v0 v1 p1 p2 = some out) : zMi l yX7_effectOf cX7_effectOf 6 rm_Sh_effectOf g [.ref (a0 o0), .ref (a1 o1), .int p1, .int p2] (W_Sh g a0 o0 (gSh_ints v0) (gSh_harm v0) (gLi_fast (gSh_lines v0)) (gLi_place (gSh_lines v0)) (gLi_post (gSh_lines v0)) (gLi_length (gSh_lines v0)) ++ W_Qu g a1 o1 (gQu_ints v1) (gQu_places v1) (gQu_strengths v1)) out (W_Sh g a0 o0 (gSh_ints v0) (gSh_harm v0) (gLi_fast (gSh_lines v0)) (gLi_place (gSh_lines v0)) (gLi_post (gSh_lines v0)) (gLi_length (gSh_lines v0)) ++ W_Qu g a1 o1 (gQu_ints v1) (gQu_places v1) (gQu_strengths v1)) := by
  refine zMi_of (lv := [(0, .ref (a0 o0)), (1, .ref (a1 o1)), (2, .int p1), (3, .int p2)]) (by decide) (Nat.le_of_ble_eq_true rfl) rfl (fun x hl hg C hret => ?_)
  subst hl; subst hg
  rw [f_Sh_effectOf] at hf
  refine r_aload_n C eX7_effectOf_0 0 rfl rfl ?_
  refine r_aload_n C eX7_effectOf_1 1 rfl rfl ?_
  refine r_iload_n C eX7_effectOf_2 2 rfl rfl ?_
  refine r_iload_n C eX7_effectOf_3 3 rfl rfl ?_
  obtain ⟨r1, hr1, hf⟩ := zbind hf
  refine r_V_i (ws' := W_Sh (z_g x) a0 o0 (gSh_ints v0) (gSh_harm v0) (gLi_fast (gSh_lines v0)) (gLi_place (gSh_lines v0)) (gLi_post (gSh_lines v0)) (gLi_length (gSh_lines v0)) ++ W_Qu (z_g x) a1 o1 (gQu_ints v1) (gQu_places v1) (gQu_strengths v1)) C (c_Sh_wayAlong (z_l x) (z_g x) a0 o0 v0 a1 o1 v1 p1 p2 r1 hr1) eX7_effectOf_4 MX7_104 ⟨0, 7, _, _, rfl, rfl, rfl⟩ [0, 1, 2, 3, 4, 5, 6, 7, 8] rfl rfl rfl rfl [] rfl trivial 9 rfl rfl rfl rfl rfl rfl ?_
  refine r_istore C [(4, .int r1), (0, .ref (a0 o0)), (1, .ref (a1 o1)), (2, .int p1), (3, .int p2)] eX7_effectOf_7 (by decide) rfl ?_
  refine r_iload C eX7_effectOf_9 0 rfl ?_
  obtain ⟨w2, hw2, hf⟩ := zlet_of hf
  have J3 : vV x 6 0 0 (W_Sh (z_g x) a0 o0 (gSh_ints v0) (gSh_harm v0) (gLi_fast (gSh_lines v0)) (gLi_place (gSh_lines v0)) (gLi_post (gSh_lines v0)) (gLi_length (gSh_lines v0)) ++ W_Qu (z_g x) a1 o1 (gQu_ints v1) (gQu_places v1) (gQu_strengths v1)) 28 [(0, .ref (a0 o0)), (1, .ref (a1 o1)), (2, .int p1)] [.int w2] := by
    refine r_istore C [(5, .int w2), (0, .ref (a0 o0)), (1, .ref (a1 o1)), (2, .int p1)] eX7_effectOf_28 (by decide) rfl ?_
    refine r_aload_n C eX7_effectOf_30 1 rfl rfl ?_
    refine r_aload_n C eX7_effectOf_31 2 rfl rfl ?_
    refine r_iload_n C eX7_effectOf_32 3 rfl rfl ?_
    refine r_V_i (ws' := W_Sh (z_g x) a0 o0 (gSh_ints v0) (gSh_harm v0) (gLi_fast (gSh_lines v0)) (gLi_place (gSh_lines v0)) (gLi_post (gSh_lines v0)) (gLi_length (gSh_lines v0)) ++ W_Qu (z_g x) a1 o1 (gQu_ints v1) (gQu_places v1) (gQu_strengths v1)) C (c_Qu_arm (z_l x) (z_g x) a1 o1 v1 p1 _ rfl) eX7_effectOf_33 MX7_101 ⟨0, 4, _, _, rfl, rfl, rfl⟩ [6, 7, 8] rfl rfl rfl rfl [0, 1, 2, 3, 4, 5] rfl ⟨rfl, rfl, rfl, rfl, rfl, rfl, trivial⟩ 9 rfl rfl rfl rfl rfl rfl ?_
    refine r_V_i (ws' := W_Sh (z_g x) a0 o0 (gSh_ints v0) (gSh_harm v0) (gLi_fast (gSh_lines v0)) (gLi_place (gSh_lines v0)) (gLi_post (gSh_lines v0)) (gLi_length (gSh_lines v0)) ++ W_Qu (z_g x) a1 o1 (gQu_ints v1) (gQu_places v1) (gQu_strengths v1)) C (c_Sh_wayOff (z_l x) (z_g x) a0 o0 v0 (f_Qu_arm v1 p1) _ rfl) eX7_effectOf_36 MX7_108 ⟨0, 7, _, _, rfl, rfl, rfl⟩ [0, 1, 2, 3, 4, 5] rfl rfl rfl rfl [6, 7, 8] rfl ⟨rfl, rfl, rfl, trivial⟩ 9 rfl rfl rfl rfl rfl rfl ?_
    refine r_if_le C eX7_effectOf_39 (fun c6 => ?_) (fun c6 => ?_)
    · rw [if_pos c6] at hf
      refine r_iload C eX7_effectOf_72 0 rfl ?_
      obtain rfl := Option.some.inj (show some (w2 : Int32) = some _ from hf)
      exact hret _ _ _ eX7_effectOf_74
    · rw [if_neg c6] at hf
      refine r_iload C eX7_effectOf_42 0 rfl ?_
      refine r_iconst C (v := 4) eX7_effectOf_44 (by decide) ?_
      refine r_ior C eX7_effectOf_45 ?_
      obtain ⟨z7, hz7, hf⟩ := zlet_of hf
      refine r_nami hz7 ?_
      refine r_istore C [(5, .int z7), (0, .ref (a0 o0)), (1, .ref (a1 o1)), (2, .int p1)] eX7_effectOf_46 (by decide) rfl ?_
      refine r_iload C eX7_effectOf_48 0 rfl ?_
      refine r_iload_n C eX7_effectOf_50 3 rfl rfl ?_
      refine r_if_le C eX7_effectOf_51 (fun c8 => ?_) (fun c8 => ?_)
      · rw [if_pos c8] at hf
        refine r_iload_n C eX7_effectOf_59 3 rfl rfl ?_
        refine r_if_ge C eX7_effectOf_60 (fun c9 => ?_) (fun c9 => ?_)
        · rw [if_pos c9] at hf
          refine r_iconst C (v := 0) eX7_effectOf_68 (by decide) ?_
          refine r_ior C eX7_effectOf_69 ?_
          obtain ⟨z10, hz10, hf⟩ := zlet_of hf
          refine r_nami hz10 ?_
          refine r_istore C [(5, .int z10), (0, .ref (a0 o0)), (1, .ref (a1 o1)), (2, .int p1)] eX7_effectOf_70 (by decide) rfl ?_
          refine r_iload C eX7_effectOf_72 0 rfl ?_
          obtain rfl := Option.some.inj (show some (z10 : Int32) = some _ from hf)
          exact hret _ _ _ eX7_effectOf_74
        · rw [if_neg c9] at hf
          refine r_bipush C (v := 16) eX7_effectOf_63 (by decide) ?_
          refine r_goto C eX7_effectOf_65 ?_
          refine r_ior C eX7_effectOf_69 ?_
          obtain ⟨z11, hz11, hf⟩ := zlet_of hf
          refine r_nami hz11 ?_
          refine r_istore C [(5, .int z11), (0, .ref (a0 o0)), (1, .ref (a1 o1)), (2, .int p1)] eX7_effectOf_70 (by decide) rfl ?_
          refine r_iload C eX7_effectOf_72 0 rfl ?_
          obtain rfl := Option.some.inj (show some (z11 : Int32) = some _ from hf)
          exact hret _ _ _ eX7_effectOf_74
      · rw [if_neg c8] at hf
        refine r_bipush C (v := 8) eX7_effectOf_54 (by decide) ?_
        refine r_goto C eX7_effectOf_56 ?_
        refine r_ior C eX7_effectOf_69 ?_
        obtain ⟨z12, hz12, hf⟩ := zlet_of hf
        refine r_nami hz12 ?_
        refine r_istore C [(5, .int z12), (0, .ref (a0 o0)), (1, .ref (a1 o1)), (2, .int p1)] eX7_effectOf_70 (by decide) rfl ?_
        refine r_iload C eX7_effectOf_72 0 rfl ?_
        obtain rfl := Option.some.inj (show some (z12 : Int32) = some _ from hf)
        exact hret _ _ _ eX7_effectOf_74
  refine r_if_le C eX7_effectOf_11 (fun c4 => ?_) (fun c4 => ?_)
  · rw [if_pos c4] at hw2
    refine r_iload C eX7_effectOf_18 0 rfl ?_
    refine r_if_ge C eX7_effectOf_20 (fun c5 => ?_) (fun c5 => ?_)
    · rw [if_pos c5] at hw2
      refine r_iconst C (v := 0) eX7_effectOf_27 (by decide) ?_
      subst hw2
      refine r_sub (lv' := [(0, .ref (a0 o0)), (1, .ref (a1 o1)), (2, .int p1)]) [1, 2, 3] rfl ?_
      exact J3 
    · rw [if_neg c5] at hw2
      refine r_iconst C (v := 2) eX7_effectOf_23 (by decide) ?_
      refine r_goto C eX7_effectOf_24 ?_
      subst hw2
      refine r_sub (lv' := [(0, .ref (a0 o0)), (1, .ref (a1 o1)), (2, .int p1)]) [1, 2, 3] rfl ?_
      exact J3 
  · rw [if_neg c4] at hw2
    refine r_iconst C (v := 1) eX7_effectOf_14 (by decide) ?_
    refine r_goto C eX7_effectOf_15 ?_
    subst hw2
    refine r_sub (lv' := [(0, .ref (a0 o0)), (1, .ref (a1 o1)), (2, .int p1)]) [1, 2, 3] rfl ?_
    exact J3 
theorem eX7_gainByEngineAndWeather_0 : zd 1 cX7_gainByEngineAndWeather 0 1 (.iconst 1) := ⟨by decide +kernel, rfl⟩
theorem eX7_gainByEngineAndWeather_1 : zd 1 cX7_gainByEngineAndWeather 1 2 (.aload_n 1) := ⟨by decide +kernel, rfl⟩
theorem eX7_gainByEngineAndWeather_2 : zd 3 cX7_gainByEngineAndWeather 2 5 (.getfield 181) := ⟨by decide +kernel, rfl⟩
theorem eX7_gainByEngineAndWeather_5 : zd 3 cX7_gainByEngineAndWeather 5 8 (.invokestatic 90) := ⟨by decide +kernel, rfl⟩
theorem eX7_gainByEngineAndWeather_8 : zd 1 cX7_gainByEngineAndWeather 8 9 (.istore_n 2) := ⟨by decide +kernel, rfl⟩
theorem eX7_gainByEngineAndWeather_9 : zd 1 cX7_gainByEngineAndWeather 9 10 (.aload_n 0) := ⟨by decide +kernel, rfl⟩
theorem eX7_gainByEngineAndWeather_10 : zd 1 cX7_gainByEngineAndWeather 10 11 (.aload_n 0) := ⟨by decide +kernel, rfl⟩
theorem eX7_gainByEngineAndWeather_11 : zd 3 cX7_gainByEngineAndWeather 11 14 (.getfield 73) := ⟨by decide +kernel, rfl⟩
theorem eX7_gainByEngineAndWeather_14 : zd 1 cX7_gainByEngineAndWeather 14 15 (.aload_n 1) := ⟨by decide +kernel, rfl⟩
theorem eX7_gainByEngineAndWeather_15 : zd 3 cX7_gainByEngineAndWeather 15 18 (.getfield 184) := ⟨by decide +kernel, rfl⟩
theorem eX7_gainByEngineAndWeather_18 : zd 1 cX7_gainByEngineAndWeather 18 19 (.imul) := ⟨by decide +kernel, rfl⟩
theorem eX7_gainByEngineAndWeather_19 : zd 1 cX7_gainByEngineAndWeather 19 20 (.aload_n 0) := ⟨by decide +kernel, rfl⟩
theorem eX7_gainByEngineAndWeather_20 : zd 3 cX7_gainByEngineAndWeather 20 23 (.getfield 64) := ⟨by decide +kernel, rfl⟩
theorem eX7_gainByEngineAndWeather_23 : zd 1 cX7_gainByEngineAndWeather 23 24 (.aload_n 1) := ⟨by decide +kernel, rfl⟩
theorem eX7_gainByEngineAndWeather_24 : zd 3 cX7_gainByEngineAndWeather 24 27 (.getfield 187) := ⟨by decide +kernel, rfl⟩
theorem eX7_gainByEngineAndWeather_27 : zd 1 cX7_gainByEngineAndWeather 27 28 (.imul) := ⟨by decide +kernel, rfl⟩
theorem eX7_gainByEngineAndWeather_28 : zd 2 cX7_gainByEngineAndWeather 28 30 (.bipush 100) := ⟨by decide +kernel, rfl⟩
theorem eX7_gainByEngineAndWeather_30 : zd 1 cX7_gainByEngineAndWeather 30 31 (.idiv) := ⟨by decide +kernel, rfl⟩
theorem eX7_gainByEngineAndWeather_31 : zd 1 cX7_gainByEngineAndWeather 31 32 (.isub) := ⟨by decide +kernel, rfl⟩
theorem eX7_gainByEngineAndWeather_32 : zd 3 cX7_gainByEngineAndWeather 32 35 (.putfield 190) := ⟨by decide +kernel, rfl⟩
theorem eX7_gainByEngineAndWeather_35 : zd 1 cX7_gainByEngineAndWeather 35 36 (.aload_n 0) := ⟨by decide +kernel, rfl⟩
theorem eX7_gainByEngineAndWeather_36 : zd 1 cX7_gainByEngineAndWeather 36 37 (.aload_n 0) := ⟨by decide +kernel, rfl⟩
theorem eX7_gainByEngineAndWeather_37 : zd 3 cX7_gainByEngineAndWeather 37 40 (.getfield 79) := ⟨by decide +kernel, rfl⟩
theorem eX7_gainByEngineAndWeather_40 : zd 2 cX7_gainByEngineAndWeather 40 42 (.bipush 10) := ⟨by decide +kernel, rfl⟩
theorem eX7_gainByEngineAndWeather_42 : zd 1 cX7_gainByEngineAndWeather 42 43 (.imul) := ⟨by decide +kernel, rfl⟩
theorem eX7_gainByEngineAndWeather_43 : zd 1 cX7_gainByEngineAndWeather 43 44 (.iload_n 2) := ⟨by decide +kernel, rfl⟩
theorem eX7_gainByEngineAndWeather_44 : zd 1 cX7_gainByEngineAndWeather 44 45 (.idiv) := ⟨by decide +kernel, rfl⟩
theorem eX7_gainByEngineAndWeather_45 : zd 1 cX7_gainByEngineAndWeather 45 46 (.aload_n 1) := ⟨by decide +kernel, rfl⟩
theorem eX7_gainByEngineAndWeather_46 : zd 3 cX7_gainByEngineAndWeather 46 49 (.getfield 193) := ⟨by decide +kernel, rfl⟩
theorem eX7_gainByEngineAndWeather_49 : zd 1 cX7_gainByEngineAndWeather 49 50 (.isub) := ⟨by decide +kernel, rfl⟩
theorem eX7_gainByEngineAndWeather_50 : zd 1 cX7_gainByEngineAndWeather 50 51 (.aload_n 0) := ⟨by decide +kernel, rfl⟩
theorem eX7_gainByEngineAndWeather_51 : zd 3 cX7_gainByEngineAndWeather 51 54 (.getfield 67) := ⟨by decide +kernel, rfl⟩
theorem eX7_gainByEngineAndWeather_54 : zd 1 cX7_gainByEngineAndWeather 54 55 (.aload_n 1) := ⟨by decide +kernel, rfl⟩
theorem eX7_gainByEngineAndWeather_55 : zd 3 cX7_gainByEngineAndWeather 55 58 (.getfield 196) := ⟨by decide +kernel, rfl⟩
theorem eX7_gainByEngineAndWeather_58 : zd 1 cX7_gainByEngineAndWeather 58 59 (.imul) := ⟨by decide +kernel, rfl⟩
theorem eX7_gainByEngineAndWeather_59 : zd 2 cX7_gainByEngineAndWeather 59 61 (.bipush 100) := ⟨by decide +kernel, rfl⟩
theorem eX7_gainByEngineAndWeather_61 : zd 1 cX7_gainByEngineAndWeather 61 62 (.idiv) := ⟨by decide +kernel, rfl⟩
theorem eX7_gainByEngineAndWeather_62 : zd 1 cX7_gainByEngineAndWeather 62 63 (.isub) := ⟨by decide +kernel, rfl⟩
theorem eX7_gainByEngineAndWeather_63 : zd 3 cX7_gainByEngineAndWeather 63 66 (.putfield 199) := ⟨by decide +kernel, rfl⟩
theorem eX7_gainByEngineAndWeather_66 : zd 1 cX7_gainByEngineAndWeather 66 67 (.aload_n 0) := ⟨by decide +kernel, rfl⟩
theorem eX7_gainByEngineAndWeather_67 : zd 1 cX7_gainByEngineAndWeather 67 68 (.aload_n 0) := ⟨by decide +kernel, rfl⟩
theorem eX7_gainByEngineAndWeather_68 : zd 3 cX7_gainByEngineAndWeather 68 71 (.getfield 76) := ⟨by decide +kernel, rfl⟩
theorem eX7_gainByEngineAndWeather_71 : zd 1 cX7_gainByEngineAndWeather 71 72 (.aload_n 0) := ⟨by decide +kernel, rfl⟩
theorem eX7_gainByEngineAndWeather_72 : zd 3 cX7_gainByEngineAndWeather 72 75 (.getfield 64) := ⟨by decide +kernel, rfl⟩
theorem eX7_gainByEngineAndWeather_75 : zd 1 cX7_gainByEngineAndWeather 75 76 (.imul) := ⟨by decide +kernel, rfl⟩
theorem eX7_gainByEngineAndWeather_76 : zd 2 cX7_gainByEngineAndWeather 76 78 (.bipush 100) := ⟨by decide +kernel, rfl⟩
theorem eX7_gainByEngineAndWeather_78 : zd 1 cX7_gainByEngineAndWeather 78 79 (.idiv) := ⟨by decide +kernel, rfl⟩
theorem eX7_gainByEngineAndWeather_79 : zd 1 cX7_gainByEngineAndWeather 79 80 (.aload_n 1) := ⟨by decide +kernel, rfl⟩
theorem eX7_gainByEngineAndWeather_80 : zd 3 cX7_gainByEngineAndWeather 80 83 (.getfield 202) := ⟨by decide +kernel, rfl⟩
theorem eX7_gainByEngineAndWeather_83 : zd 1 cX7_gainByEngineAndWeather 83 84 (.imul) := ⟨by decide +kernel, rfl⟩
theorem eX7_gainByEngineAndWeather_84 : zd 1 cX7_gainByEngineAndWeather 84 85 (.iload_n 2) := ⟨by decide +kernel, rfl⟩
theorem eX7_gainByEngineAndWeather_85 : zd 1 cX7_gainByEngineAndWeather 85 86 (.idiv) := ⟨by decide +kernel, rfl⟩
theorem eX7_gainByEngineAndWeather_86 : zd 1 cX7_gainByEngineAndWeather 86 87 (.aload_n 0) := ⟨by decide +kernel, rfl⟩
theorem eX7_gainByEngineAndWeather_87 : zd 3 cX7_gainByEngineAndWeather 87 90 (.getfield 70) := ⟨by decide +kernel, rfl⟩
theorem eX7_gainByEngineAndWeather_90 : zd 1 cX7_gainByEngineAndWeather 90 91 (.aload_n 1) := ⟨by decide +kernel, rfl⟩
theorem eX7_gainByEngineAndWeather_91 : zd 3 cX7_gainByEngineAndWeather 91 94 (.getfield 205) := ⟨by decide +kernel, rfl⟩
theorem eX7_gainByEngineAndWeather_94 : zd 1 cX7_gainByEngineAndWeather 94 95 (.imul) := ⟨by decide +kernel, rfl⟩
theorem eX7_gainByEngineAndWeather_95 : zd 2 cX7_gainByEngineAndWeather 95 97 (.bipush 100) := ⟨by decide +kernel, rfl⟩
theorem eX7_gainByEngineAndWeather_97 : zd 1 cX7_gainByEngineAndWeather 97 98 (.idiv) := ⟨by decide +kernel, rfl⟩
theorem eX7_gainByEngineAndWeather_98 : zd 1 cX7_gainByEngineAndWeather 98 99 (.isub) := ⟨by decide +kernel, rfl⟩
theorem eX7_gainByEngineAndWeather_99 : zd 3 cX7_gainByEngineAndWeather 99 102 (.putfield 208) := ⟨by decide +kernel, rfl⟩
theorem eX7_gainByEngineAndWeather_102 : zd 1 cX7_gainByEngineAndWeather 102 103 (.aload_n 0) := ⟨by decide +kernel, rfl⟩
theorem eX7_gainByEngineAndWeather_103 : zd 3 cX7_gainByEngineAndWeather 103 106 (.getfield 73) := ⟨by decide +kernel, rfl⟩
theorem eX7_gainByEngineAndWeather_106 : zdi cX7_gainByEngineAndWeather 106 109 129 (.ifCond .ge) := ⟨23, by decide +kernel, rfl, by decide⟩
theorem eX7_gainByEngineAndWeather_109 : zd 1 cX7_gainByEngineAndWeather 109 110 (.aload_n 0) := ⟨by decide +kernel, rfl⟩
theorem eX7_gainByEngineAndWeather_110 : zd 1 cX7_gainByEngineAndWeather 110 111 (.dup) := ⟨by decide +kernel, rfl⟩
theorem eX7_gainByEngineAndWeather_111 : zd 3 cX7_gainByEngineAndWeather 111 114 (.getfield 208) := ⟨by decide +kernel, rfl⟩
theorem eX7_gainByEngineAndWeather_114 : zd 1 cX7_gainByEngineAndWeather 114 115 (.aload_n 0) := ⟨by decide +kernel, rfl⟩
theorem eX7_gainByEngineAndWeather_115 : zd 3 cX7_gainByEngineAndWeather 115 118 (.getfield 73) := ⟨by decide +kernel, rfl⟩
theorem eX7_gainByEngineAndWeather_118 : zd 1 cX7_gainByEngineAndWeather 118 119 (.aload_n 1) := ⟨by decide +kernel, rfl⟩
theorem eX7_gainByEngineAndWeather_119 : zd 3 cX7_gainByEngineAndWeather 119 122 (.getfield 211) := ⟨by decide +kernel, rfl⟩
theorem eX7_gainByEngineAndWeather_122 : zd 1 cX7_gainByEngineAndWeather 122 123 (.imul) := ⟨by decide +kernel, rfl⟩
theorem eX7_gainByEngineAndWeather_123 : zd 1 cX7_gainByEngineAndWeather 123 124 (.iload_n 2) := ⟨by decide +kernel, rfl⟩
theorem eX7_gainByEngineAndWeather_124 : zd 1 cX7_gainByEngineAndWeather 124 125 (.idiv) := ⟨by decide +kernel, rfl⟩
theorem eX7_gainByEngineAndWeather_125 : zd 1 cX7_gainByEngineAndWeather 125 126 (.iadd) := ⟨by decide +kernel, rfl⟩
theorem eX7_gainByEngineAndWeather_126 : zd 3 cX7_gainByEngineAndWeather 126 129 (.putfield 208) := ⟨by decide +kernel, rfl⟩
theorem eX7_gainByEngineAndWeather_129 : zd 1 cX7_gainByEngineAndWeather 129 130 (.return_) := ⟨by decide +kernel, rfl⟩
theorem FX7_184 : zlF RX7 184 4 4 := ⟨(RX4, TX4, 16), rfl, by decide, q66, zin4⟩
theorem FX7_187 : zlF RX7 187 4 7 := ⟨(RX4, TX4, 16), rfl, by decide, q72, zin4⟩
theorem FX7_193 : zlF RX7 193 4 10 := ⟨(RX4, TX4, 16), rfl, by decide, q80, zin4⟩
theorem FX7_196 : zlF RX7 196 4 8 := ⟨(RX4, TX4, 16), rfl, by decide, q74, zin4⟩
theorem FX7_202 : zlF RX7 202 4 6 := ⟨(RX4, TX4, 16), rfl, by decide, q70, zin4⟩
theorem FX7_205 : zlF RX7 205 4 9 := ⟨(RX4, TX4, 16), rfl, by decide, q76, zin4⟩
theorem FX7_208 : zlF RX7 208 7 17 := ⟨(RX7, TX7, 18), rfl, by decide, q260, zin7⟩
theorem FX7_211 : zlF RX7 211 4 5 := ⟨(RX4, TX4, 16), rfl, by decide, q68, zin4⟩
theorem PX7_190 : zlP RX7 190 7 15 .int := ⟨(RX7, TX7, 18), tyX7, rfl, by decide, q258, zin7, tyX7_ok, nmX7, rfl, by decide +kernel⟩
theorem PX7_199 : zlP RX7 199 7 16 .int := ⟨(RX7, TX7, 18), tyX7, rfl, by decide, q259, zin7, tyX7_ok, nmX7, rfl, by decide +kernel⟩
theorem PX7_208 : zlP RX7 208 7 17 .int := ⟨(RX7, TX7, 18), tyX7, rfl, by decide, q260, zin7, tyX7_ok, nmX7, rfl, by decide +kernel⟩
noncomputable def f_Sh_gainByEngineAndWeather (v0 : tSh) (v1 : tQu)  : Option ((Nat → Int32)) := (zlet (zmax 1 ((gQu_ints v1) 3)) (fun (z1 : Int32) => (zlet ((((gSh_ints v0) 6) * ((gQu_ints v1) 4)) - ((((gSh_ints v0) 3) * ((gQu_ints v1) 7)) / 100)) (fun (z2 : Int32) => (if z1 = 0 then none else (zlet ((((((gSh_ints v0) 8) * 10) / z1) - ((gQu_ints v1) 10)) - ((((gSh_ints v0) 4) * ((gQu_ints v1) 8)) / 100)) (fun (z4 : Int32) => (if z1 = 0 then none else (zlet (((((((gSh_ints v0) 7) * ((gSh_ints v0) 3)) / 100) * ((gQu_ints v1) 6)) / z1) - ((((gSh_ints v0) 5) * ((gQu_ints v1) 9)) / 100)) (fun (z6 : Int32) => (if 0 ≤ ((gSh_ints v0) 6) then (some (upd (upd (upd (gSh_ints v0) 15 z2) 16 z4) 17 z6)) else (if z1 = 0 then none else (zlet (z6 + ((((gSh_ints v0) 6) * ((gQu_ints v1) 5)) / z1)) (fun (z9 : Int32) => (some (upd (upd (upd (gSh_ints v0) 15 z2) 16 z4) 17 z9))))))))))))))))
abbrev rm_Sh_gainByEngineAndWeather : Room := { frames := 1, cells := 0, slots := 0, locals := 21 }
set_option maxHeartbeats 4000000 in
set_option maxRecDepth 100000 in
theorem c_Sh_gainByEngineAndWeather (l : Launch) (g : zGl) (a0 : Nat → Nat) (o0 : Nat) (v0 : tSh) (a1 : Nat → Nat) (o1 : Nat) (v1 : tQu)  (out : (Nat → Int32)) (hf : f_Sh_gainByEngineAndWeather v0 v1 = some out) : zMv l yX7_gainByEngineAndWeather cX7_gainByEngineAndWeather 3 rm_Sh_gainByEngineAndWeather g [.ref (a0 o0), .ref (a1 o1)] (W_Sh g a0 o0 (gSh_ints v0) (gSh_harm v0) (gLi_fast (gSh_lines v0)) (gLi_place (gSh_lines v0)) (gLi_post (gSh_lines v0)) (gLi_length (gSh_lines v0)) ++ W_Qu g a1 o1 (gQu_ints v1) (gQu_places v1) (gQu_strengths v1))  (W_Sh g a0 o0 out (gSh_harm v0) (gLi_fast (gSh_lines v0)) (gLi_place (gSh_lines v0)) (gLi_post (gSh_lines v0)) (gLi_length (gSh_lines v0)) ++ W_Qu g a1 o1 (gQu_ints v1) (gQu_places v1) (gQu_strengths v1)) := by
  refine zMv_of (lv := [(0, .ref (a0 o0)), (1, .ref (a1 o1))]) (by decide) (Nat.le_of_ble_eq_true rfl) rfl (fun x hl hg C hret => ?_)
  subst hl; subst hg
  rw [f_Sh_gainByEngineAndWeather] at hf
  refine r_iconst C (v := 1) eX7_gainByEngineAndWeather_0 (by decide) ?_
  refine r_aload_n C eX7_gainByEngineAndWeather_1 1 rfl rfl ?_
  refine r_get (v := .int ((gQu_ints v1) 3)) C eX7_gainByEngineAndWeather_2 FX7_181 6 rfl rfl ?_
  refine r_mmax C eX7_gainByEngineAndWeather_5 MX7_90 rfl ?_
  obtain ⟨z1, hz1, hf⟩ := zlet_of hf
  refine r_nami hz1 ?_
  refine r_istore_n C [(2, .int z1), (0, .ref (a0 o0)), (1, .ref (a1 o1))] eX7_gainByEngineAndWeather_8 rfl (by decide) rfl ?_
  refine r_aload_n C eX7_gainByEngineAndWeather_9 1 rfl rfl ?_
  refine r_aload_n C eX7_gainByEngineAndWeather_10 1 rfl rfl ?_
  refine r_get (v := .int ((gSh_ints v0) 6)) C eX7_gainByEngineAndWeather_11 FX7_73 0 rfl rfl ?_
  refine r_aload_n C eX7_gainByEngineAndWeather_14 2 rfl rfl ?_
  refine r_get (v := .int ((gQu_ints v1) 4)) C eX7_gainByEngineAndWeather_15 FX7_184 6 rfl rfl ?_
  refine r_imul C eX7_gainByEngineAndWeather_18 ?_
  refine r_aload_n C eX7_gainByEngineAndWeather_19 1 rfl rfl ?_
  refine r_get (v := .int ((gSh_ints v0) 3)) C eX7_gainByEngineAndWeather_20 FX7_64 0 rfl rfl ?_
  refine r_aload_n C eX7_gainByEngineAndWeather_23 2 rfl rfl ?_
  refine r_get (v := .int ((gQu_ints v1) 7)) C eX7_gainByEngineAndWeather_24 FX7_187 6 rfl rfl ?_
  refine r_imul C eX7_gainByEngineAndWeather_27 ?_
  refine r_bipush C (v := 100) eX7_gainByEngineAndWeather_28 (by decide) ?_
  refine r_idiv C eX7_gainByEngineAndWeather_30 (by decide) ?_
  refine r_isub C eX7_gainByEngineAndWeather_31 ?_
  obtain ⟨z2, hz2, hf⟩ := zlet_of hf
  refine r_nami hz2 ?_
  refine r_put (ws' := W_Sh (z_g x) a0 o0 (upd (gSh_ints v0) 15 z2) (gSh_harm v0) (gLi_fast (gSh_lines v0)) (gLi_place (gSh_lines v0)) (gLi_post (gSh_lines v0)) (gLi_length (gSh_lines v0)) ++ W_Qu (z_g x) a1 o1 (gQu_ints v1) (gQu_places v1) (gQu_strengths v1)) C eX7_gainByEngineAndWeather_32 PX7_190 0 rfl rfl rfl (Nat.le_of_ble_eq_true rfl) rfl ?_
  refine r_aload_n C eX7_gainByEngineAndWeather_35 1 rfl rfl ?_
  refine r_aload_n C eX7_gainByEngineAndWeather_36 1 rfl rfl ?_
  refine r_get (v := .int ((gSh_ints v0) 8)) C eX7_gainByEngineAndWeather_37 FX7_79 0 rfl rfl ?_
  refine r_bipush C (v := 10) eX7_gainByEngineAndWeather_40 (by decide) ?_
  refine r_imul C eX7_gainByEngineAndWeather_42 ?_
  refine r_iload_n C eX7_gainByEngineAndWeather_43 0 rfl rfl ?_
  obtain ⟨hz3, hf⟩ := zdv hf
  refine r_idiv C eX7_gainByEngineAndWeather_44 hz3 ?_
  refine r_aload_n C eX7_gainByEngineAndWeather_45 2 rfl rfl ?_
  refine r_get (v := .int ((gQu_ints v1) 10)) C eX7_gainByEngineAndWeather_46 FX7_193 6 rfl rfl ?_
  refine r_isub C eX7_gainByEngineAndWeather_49 ?_
  refine r_aload_n C eX7_gainByEngineAndWeather_50 1 rfl rfl ?_
  refine r_get (v := .int ((gSh_ints v0) 4)) C eX7_gainByEngineAndWeather_51 FX7_67 0 rfl rfl ?_
  refine r_aload_n C eX7_gainByEngineAndWeather_54 2 rfl rfl ?_
  refine r_get (v := .int ((gQu_ints v1) 8)) C eX7_gainByEngineAndWeather_55 FX7_196 6 rfl rfl ?_
  refine r_imul C eX7_gainByEngineAndWeather_58 ?_
  refine r_bipush C (v := 100) eX7_gainByEngineAndWeather_59 (by decide) ?_
  refine r_idiv C eX7_gainByEngineAndWeather_61 (by decide) ?_
  refine r_isub C eX7_gainByEngineAndWeather_62 ?_
  obtain ⟨z4, hz4, hf⟩ := zlet_of hf
  refine r_nami hz4 ?_
  refine r_put (ws' := W_Sh (z_g x) a0 o0 (upd (upd (gSh_ints v0) 15 z2) 16 z4) (gSh_harm v0) (gLi_fast (gSh_lines v0)) (gLi_place (gSh_lines v0)) (gLi_post (gSh_lines v0)) (gLi_length (gSh_lines v0)) ++ W_Qu (z_g x) a1 o1 (gQu_ints v1) (gQu_places v1) (gQu_strengths v1)) C eX7_gainByEngineAndWeather_63 PX7_199 0 rfl rfl rfl (Nat.le_of_ble_eq_true rfl) rfl ?_
  refine r_aload_n C eX7_gainByEngineAndWeather_66 1 rfl rfl ?_
  refine r_aload_n C eX7_gainByEngineAndWeather_67 1 rfl rfl ?_
  refine r_get (v := .int ((gSh_ints v0) 7)) C eX7_gainByEngineAndWeather_68 FX7_76 0 rfl rfl ?_
  refine r_aload_n C eX7_gainByEngineAndWeather_71 1 rfl rfl ?_
  refine r_get (v := .int ((gSh_ints v0) 3)) C eX7_gainByEngineAndWeather_72 FX7_64 0 rfl rfl ?_
  refine r_imul C eX7_gainByEngineAndWeather_75 ?_
  refine r_bipush C (v := 100) eX7_gainByEngineAndWeather_76 (by decide) ?_
  refine r_idiv C eX7_gainByEngineAndWeather_78 (by decide) ?_
  refine r_aload_n C eX7_gainByEngineAndWeather_79 2 rfl rfl ?_
  refine r_get (v := .int ((gQu_ints v1) 6)) C eX7_gainByEngineAndWeather_80 FX7_202 6 rfl rfl ?_
  refine r_imul C eX7_gainByEngineAndWeather_83 ?_
  refine r_iload_n C eX7_gainByEngineAndWeather_84 0 rfl rfl ?_
  obtain ⟨hz5, hf⟩ := zdv hf
  refine r_idiv C eX7_gainByEngineAndWeather_85 hz5 ?_
  refine r_aload_n C eX7_gainByEngineAndWeather_86 1 rfl rfl ?_
  refine r_get (v := .int ((gSh_ints v0) 5)) C eX7_gainByEngineAndWeather_87 FX7_70 0 rfl rfl ?_
  refine r_aload_n C eX7_gainByEngineAndWeather_90 2 rfl rfl ?_
  refine r_get (v := .int ((gQu_ints v1) 9)) C eX7_gainByEngineAndWeather_91 FX7_205 6 rfl rfl ?_
  refine r_imul C eX7_gainByEngineAndWeather_94 ?_
  refine r_bipush C (v := 100) eX7_gainByEngineAndWeather_95 (by decide) ?_
  refine r_idiv C eX7_gainByEngineAndWeather_97 (by decide) ?_
  refine r_isub C eX7_gainByEngineAndWeather_98 ?_
  obtain ⟨z6, hz6, hf⟩ := zlet_of hf
  refine r_nami hz6 ?_
  refine r_put (ws' := W_Sh (z_g x) a0 o0 (upd (upd (upd (gSh_ints v0) 15 z2) 16 z4) 17 z6) (gSh_harm v0) (gLi_fast (gSh_lines v0)) (gLi_place (gSh_lines v0)) (gLi_post (gSh_lines v0)) (gLi_length (gSh_lines v0)) ++ W_Qu (z_g x) a1 o1 (gQu_ints v1) (gQu_places v1) (gQu_strengths v1)) C eX7_gainByEngineAndWeather_99 PX7_208 0 rfl rfl rfl (Nat.le_of_ble_eq_true rfl) rfl ?_
  refine r_aload_n C eX7_gainByEngineAndWeather_102 1 rfl rfl ?_
  refine r_get (v := .int ((gSh_ints v0) 6)) C eX7_gainByEngineAndWeather_103 FX7_73 0 rfl rfl ?_
  refine r_if_ge C eX7_gainByEngineAndWeather_106 (fun c7 => ?_) (fun c7 => ?_)
  · rw [if_pos c7] at hf
    obtain rfl := Option.some.inj (show some ((upd (upd (upd (gSh_ints v0) 15 z2) 16 z4) 17 z6) : (Nat → Int32)) = some _ from hf)
    exact hret _ _ _ eX7_gainByEngineAndWeather_129
  · rw [if_neg c7] at hf
    refine r_aload_n C eX7_gainByEngineAndWeather_109 1 rfl rfl ?_
    refine r_dup C eX7_gainByEngineAndWeather_110 rfl ?_
    refine r_get (v := .int z6) C eX7_gainByEngineAndWeather_111 FX7_208 0 rfl rfl ?_
    refine r_aload_n C eX7_gainByEngineAndWeather_114 1 rfl rfl ?_
    refine r_get (v := .int ((gSh_ints v0) 6)) C eX7_gainByEngineAndWeather_115 FX7_73 0 rfl rfl ?_
    refine r_aload_n C eX7_gainByEngineAndWeather_118 2 rfl rfl ?_
    refine r_get (v := .int ((gQu_ints v1) 5)) C eX7_gainByEngineAndWeather_119 FX7_211 6 rfl rfl ?_
    refine r_imul C eX7_gainByEngineAndWeather_122 ?_
    refine r_iload_n C eX7_gainByEngineAndWeather_123 0 rfl rfl ?_
    obtain ⟨hz8, hf⟩ := zdv hf
    refine r_idiv C eX7_gainByEngineAndWeather_124 hz8 ?_
    refine r_iadd C eX7_gainByEngineAndWeather_125 ?_
    obtain ⟨z9, hz9, hf⟩ := zlet_of hf
    refine r_nami hz9 ?_
    refine r_put (ws' := W_Sh (z_g x) a0 o0 (upd (upd (upd (gSh_ints v0) 15 z2) 16 z4) 17 z9) (gSh_harm v0) (gLi_fast (gSh_lines v0)) (gLi_place (gSh_lines v0)) (gLi_post (gSh_lines v0)) (gLi_length (gSh_lines v0)) ++ W_Qu (z_g x) a1 o1 (gQu_ints v1) (gQu_places v1) (gQu_strengths v1)) C eX7_gainByEngineAndWeather_126 PX7_208 0 rfl rfl rfl (Nat.le_of_ble_eq_true rfl) rfl ?_
    obtain rfl := Option.some.inj (show some ((upd (upd (upd (gSh_ints v0) 15 z2) 16 z4) 17 z9) : (Nat → Int32)) = some _ from hf)
    exact hret _ _ _ eX7_gainByEngineAndWeather_129
