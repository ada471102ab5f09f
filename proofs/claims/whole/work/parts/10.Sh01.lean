theorem eX7_addHarm_0 : zd 1 cX7_addHarm 0 1 (.aload_n 0) := ⟨by decide +kernel, rfl⟩
theorem eX7_addHarm_1 : zd 1 cX7_addHarm 1 2 (.dup) := ⟨by decide +kernel, rfl⟩
theorem eX7_addHarm_2 : zd 3 cX7_addHarm 2 5 (.getfield 43) := ⟨by decide +kernel, rfl⟩
theorem eX7_addHarm_5 : zd 1 cX7_addHarm 5 6 (.lload_n 2) := ⟨by decide +kernel, rfl⟩
theorem eX7_addHarm_6 : zd 1 cX7_addHarm 6 7 (.lload_n 2) := ⟨by decide +kernel, rfl⟩
theorem eX7_addHarm_7 : zd 1 cX7_addHarm 7 8 (.lmul) := ⟨by decide +kernel, rfl⟩
theorem eX7_addHarm_8 : zd 1 cX7_addHarm 8 9 (.aload_n 1) := ⟨by decide +kernel, rfl⟩
theorem eX7_addHarm_9 : zd 3 cX7_addHarm 9 12 (.getfield 181) := ⟨by decide +kernel, rfl⟩
theorem eX7_addHarm_12 : zd 1 cX7_addHarm 12 13 (.i2l) := ⟨by decide +kernel, rfl⟩
theorem eX7_addHarm_13 : zd 1 cX7_addHarm 13 14 (.lmul) := ⟨by decide +kernel, rfl⟩
theorem eX7_addHarm_14 : zd 3 cX7_addHarm 14 17 (.ldc2_w 248) := ⟨by decide +kernel, rfl⟩
theorem eX7_addHarm_17 : zd 1 cX7_addHarm 17 18 (.ldiv) := ⟨by decide +kernel, rfl⟩
theorem eX7_addHarm_18 : zd 1 cX7_addHarm 18 19 (.ladd) := ⟨by decide +kernel, rfl⟩
theorem eX7_addHarm_19 : zd 3 cX7_addHarm 19 22 (.putfield 43) := ⟨by decide +kernel, rfl⟩
theorem eX7_addHarm_22 : zd 1 cX7_addHarm 22 23 (.return_) := ⟨by decide +kernel, rfl⟩
theorem FX7_43 : zlF RX7 43 7 13 := ⟨(RX7, TX7, 18), rfl, by decide, q253, zin7⟩
theorem FX7_181 : zlF RX7 181 4 3 := ⟨(RX4, TX4, 16), rfl, by decide, q64, zin4⟩
theorem PX7_43 : zlP RX7 43 7 13 .long := ⟨(RX7, TX7, 18), tyX7, rfl, by decide, q253, zin7, tyX7_ok, nmX7, rfl, by decide +kernel⟩
noncomputable def f_Sh_addHarm (v0 : tSh) (v1 : tQu) (p1 : Int64) : Int64 := (zlet ((gSh_harm v0) + (((p1 * p1) * ((gQu_ints v1) 3).toInt64) / 10)) (fun (z1 : Int64) => z1))
abbrev rm_Sh_addHarm : Room := { frames := 0, cells := 0, slots := 0, locals := 0 }
set_option maxHeartbeats 4000000 in
set_option maxRecDepth 100000 in
theorem c_Sh_addHarm (l : Launch) (g : zGl) (a0 : Nat → Nat) (o0 : Nat) (v0 : tSh) (a1 : Nat → Nat) (o1 : Nat) (v1 : tQu) (p1 : Int64) (out : Int64) (hf : f_Sh_addHarm v0 v1 p1 = out) : zMv l yX7_addHarm cX7_addHarm 4 rm_Sh_addHarm g [.ref (a0 o0), .ref (a1 o1), .long p1] (W_Sh g a0 o0 (gSh_ints v0) (gSh_harm v0) (gLi_fast (gSh_lines v0)) (gLi_place (gSh_lines v0)) (gLi_post (gSh_lines v0)) (gLi_length (gSh_lines v0)) ++ W_Qu g a1 o1 (gQu_ints v1) (gQu_places v1) (gQu_strengths v1))  (W_Sh g a0 o0 (gSh_ints v0) out (gLi_fast (gSh_lines v0)) (gLi_place (gSh_lines v0)) (gLi_post (gSh_lines v0)) (gLi_length (gSh_lines v0)) ++ W_Qu g a1 o1 (gQu_ints v1) (gQu_places v1) (gQu_strengths v1)) := by
  refine zMv_of (lv := [(0, .ref (a0 o0)), (1, .ref (a1 o1)), (2, .long p1)]) (by decide) (Nat.le_of_ble_eq_true rfl) rfl (fun x hl hg C hret => ?_)
  subst hl; subst hg
  rw [f_Sh_addHarm] at hf
  refine r_aload_n C eX7_addHarm_0 0 rfl rfl ?_
  refine r_dup C eX7_addHarm_1 rfl ?_
  refine r_get (v := .long (gSh_harm v0)) C eX7_addHarm_2 FX7_43 0 rfl rfl ?_
  refine r_lload_n C eX7_addHarm_5 2 rfl rfl ?_
  refine r_lload_n C eX7_addHarm_6 2 rfl rfl ?_
  refine r_lmul C eX7_addHarm_7 ?_
  refine r_aload_n C eX7_addHarm_8 1 rfl rfl ?_
  refine r_get (v := .int ((gQu_ints v1) 3)) C eX7_addHarm_9 FX7_181 6 rfl rfl ?_
  refine r_i2l C eX7_addHarm_12 ?_
  refine r_lmul C eX7_addHarm_13 ?_
  refine r_ldc2 C (v := 10) eX7_addHarm_14 q769 ?_
  refine r_ldiv C eX7_addHarm_17 (by decide) ?_
  refine r_ladd C eX7_addHarm_18 ?_
  obtain ⟨z1, hz1, hf⟩ := zlet_of hf
  refine r_naml hz1 ?_
  refine r_put (ws' := W_Sh (z_g x) a0 o0 (gSh_ints v0) z1 (gLi_fast (gSh_lines v0)) (gLi_place (gSh_lines v0)) (gLi_post (gSh_lines v0)) (gLi_length (gSh_lines v0)) ++ W_Qu (z_g x) a1 o1 (gQu_ints v1) (gQu_places v1) (gQu_strengths v1)) C eX7_addHarm_19 PX7_43 0 rfl rfl rfl (Nat.le_of_ble_eq_true rfl) rfl ?_
  subst hf
  exact hret _ _ _ eX7_addHarm_22
theorem eX7_become_0 : zd 1 cX7_become 0 1 (.iload_n 1) := ⟨by decide +kernel, rfl⟩
theorem eX7_become_1 : decode cX7_become 1 = .ok (.tableswitch 111 0 7 #[47, 55, 63, 71, 79, 87, 95, 103], 47) := by decide +kernel
theorem eX7_become_48 : zd 1 cX7_become 48 49 (.aload_n 0) := ⟨by decide +kernel, rfl⟩
theorem eX7_become_49 : zd 1 cX7_become 49 50 (.iload_n 2) := ⟨by decide +kernel, rfl⟩
theorem eX7_become_50 : zd 3 cX7_become 50 53 (.putfield 27) := ⟨by decide +kernel, rfl⟩
theorem eX7_become_53 : zdi cX7_become 53 56 117 (.goto) := ⟨64, by decide +kernel, rfl, by decide⟩
theorem eX7_become_56 : zd 1 cX7_become 56 57 (.aload_n 0) := ⟨by decide +kernel, rfl⟩
theorem eX7_become_57 : zd 1 cX7_become 57 58 (.iload_n 2) := ⟨by decide +kernel, rfl⟩
theorem eX7_become_58 : zd 3 cX7_become 58 61 (.putfield 31) := ⟨by decide +kernel, rfl⟩
theorem eX7_become_61 : zdi cX7_become 61 64 117 (.goto) := ⟨56, by decide +kernel, rfl, by decide⟩
theorem eX7_become_64 : zd 1 cX7_become 64 65 (.aload_n 0) := ⟨by decide +kernel, rfl⟩
theorem eX7_become_65 : zd 1 cX7_become 65 66 (.iload_n 2) := ⟨by decide +kernel, rfl⟩
theorem eX7_become_66 : zd 3 cX7_become 66 69 (.putfield 61) := ⟨by decide +kernel, rfl⟩
theorem eX7_become_69 : zdi cX7_become 69 72 117 (.goto) := ⟨48, by decide +kernel, rfl, by decide⟩
theorem eX7_become_72 : zd 1 cX7_become 72 73 (.aload_n 0) := ⟨by decide +kernel, rfl⟩
theorem eX7_become_73 : zd 1 cX7_become 73 74 (.iload_n 2) := ⟨by decide +kernel, rfl⟩
theorem eX7_become_74 : zd 3 cX7_become 74 77 (.putfield 64) := ⟨by decide +kernel, rfl⟩
theorem eX7_become_77 : zdi cX7_become 77 80 117 (.goto) := ⟨40, by decide +kernel, rfl, by decide⟩
theorem eX7_become_80 : zd 1 cX7_become 80 81 (.aload_n 0) := ⟨by decide +kernel, rfl⟩
theorem eX7_become_81 : zd 1 cX7_become 81 82 (.iload_n 2) := ⟨by decide +kernel, rfl⟩
theorem eX7_become_82 : zd 3 cX7_become 82 85 (.putfield 67) := ⟨by decide +kernel, rfl⟩
theorem eX7_become_85 : zdi cX7_become 85 88 117 (.goto) := ⟨32, by decide +kernel, rfl, by decide⟩
theorem eX7_become_88 : zd 1 cX7_become 88 89 (.aload_n 0) := ⟨by decide +kernel, rfl⟩
theorem eX7_become_89 : zd 1 cX7_become 89 90 (.iload_n 2) := ⟨by decide +kernel, rfl⟩
theorem eX7_become_90 : zd 3 cX7_become 90 93 (.putfield 70) := ⟨by decide +kernel, rfl⟩
theorem eX7_become_93 : zdi cX7_become 93 96 117 (.goto) := ⟨24, by decide +kernel, rfl, by decide⟩
theorem eX7_become_96 : zd 1 cX7_become 96 97 (.aload_n 0) := ⟨by decide +kernel, rfl⟩
theorem eX7_become_97 : zd 1 cX7_become 97 98 (.iload_n 2) := ⟨by decide +kernel, rfl⟩
theorem eX7_become_98 : zd 3 cX7_become 98 101 (.putfield 73) := ⟨by decide +kernel, rfl⟩
theorem eX7_become_101 : zdi cX7_become 101 104 117 (.goto) := ⟨16, by decide +kernel, rfl, by decide⟩
theorem eX7_become_104 : zd 1 cX7_become 104 105 (.aload_n 0) := ⟨by decide +kernel, rfl⟩
theorem eX7_become_105 : zd 1 cX7_become 105 106 (.iload_n 2) := ⟨by decide +kernel, rfl⟩
theorem eX7_become_106 : zd 3 cX7_become 106 109 (.putfield 76) := ⟨by decide +kernel, rfl⟩
theorem eX7_become_109 : zdi cX7_become 109 112 117 (.goto) := ⟨8, by decide +kernel, rfl, by decide⟩
theorem eX7_become_112 : zd 1 cX7_become 112 113 (.aload_n 0) := ⟨by decide +kernel, rfl⟩
theorem eX7_become_113 : zd 1 cX7_become 113 114 (.iload_n 2) := ⟨by decide +kernel, rfl⟩
theorem eX7_become_114 : zd 3 cX7_become 114 117 (.putfield 79) := ⟨by decide +kernel, rfl⟩
theorem eX7_become_117 : zd 1 cX7_become 117 118 (.return_) := ⟨by decide +kernel, rfl⟩
theorem PX7_27 : zlP RX7 27 7 0 .int := ⟨(RX7, TX7, 18), tyX7, rfl, by decide, q231, zin7, tyX7_ok, nmX7, rfl, by decide +kernel⟩
theorem PX7_31 : zlP RX7 31 7 1 .int := ⟨(RX7, TX7, 18), tyX7, rfl, by decide, q233, zin7, tyX7_ok, nmX7, rfl, by decide +kernel⟩
theorem PX7_61 : zlP RX7 61 7 2 .int := ⟨(RX7, TX7, 18), tyX7, rfl, by decide, q234, zin7, tyX7_ok, nmX7, rfl, by decide +kernel⟩
theorem PX7_64 : zlP RX7 64 7 3 .int := ⟨(RX7, TX7, 18), tyX7, rfl, by decide, q236, zin7, tyX7_ok, nmX7, rfl, by decide +kernel⟩
theorem PX7_67 : zlP RX7 67 7 4 .int := ⟨(RX7, TX7, 18), tyX7, rfl, by decide, q237, zin7, tyX7_ok, nmX7, rfl, by decide +kernel⟩
theorem PX7_70 : zlP RX7 70 7 5 .int := ⟨(RX7, TX7, 18), tyX7, rfl, by decide, q238, zin7, tyX7_ok, nmX7, rfl, by decide +kernel⟩
theorem PX7_73 : zlP RX7 73 7 6 .int := ⟨(RX7, TX7, 18), tyX7, rfl, by decide, q241, zin7, tyX7_ok, nmX7, rfl, by decide +kernel⟩
theorem PX7_76 : zlP RX7 76 7 7 .int := ⟨(RX7, TX7, 18), tyX7, rfl, by decide, q244, zin7, tyX7_ok, nmX7, rfl, by decide +kernel⟩
theorem PX7_79 : zlP RX7 79 7 8 .int := ⟨(RX7, TX7, 18), tyX7, rfl, by decide, q245, zin7, tyX7_ok, nmX7, rfl, by decide +kernel⟩
noncomputable def f_Sh_become (v0 : tSh) (p1 : Int32) (p2 : Int32) : (Nat → Int32) := (if p1 = 0 then (upd (gSh_ints v0) 0 p2) else (if p1 = 1 then (upd (gSh_ints v0) 1 p2) else (if p1 = 2 then (upd (gSh_ints v0) 2 p2) else (if p1 = 3 then (upd (gSh_ints v0) 3 p2) else (if p1 = 4 then (upd (gSh_ints v0) 4 p2) else (if p1 = 5 then (upd (gSh_ints v0) 5 p2) else (if p1 = 6 then (upd (gSh_ints v0) 6 p2) else (if p1 = 7 then (upd (gSh_ints v0) 7 p2) else (upd (gSh_ints v0) 8 p2)))))))))
abbrev rm_Sh_become : Room := { frames := 0, cells := 0, slots := 0, locals := 0 }
set_option maxHeartbeats 4000000 in
set_option maxRecDepth 100000 in
theorem c_Sh_become (l : Launch) (g : zGl) (a0 : Nat → Nat) (o0 : Nat) (v0 : tSh) (p1 : Int32) (p2 : Int32) (out : (Nat → Int32)) (hf : f_Sh_become v0 p1 p2 = out) : zMv l yX7_become cX7_become 3 rm_Sh_become g [.ref (a0 o0), .int p1, .int p2] (W_Sh g a0 o0 (gSh_ints v0) (gSh_harm v0) (gLi_fast (gSh_lines v0)) (gLi_place (gSh_lines v0)) (gLi_post (gSh_lines v0)) (gLi_length (gSh_lines v0)))  (W_Sh g a0 o0 out (gSh_harm v0) (gLi_fast (gSh_lines v0)) (gLi_place (gSh_lines v0)) (gLi_post (gSh_lines v0)) (gLi_length (gSh_lines v0))) := by
  refine zMv_of (lv := [(0, .ref (a0 o0)), (1, .int p1), (2, .int p2)]) (by decide) (Nat.le_of_ble_eq_true rfl) rfl (fun x hl hg C hret => ?_)
  subst hl; subst hg
  rw [f_Sh_become] at hf
  refine r_iload_n C eX7_become_0 1 rfl rfl ?_
  by_cases c1 : p1 = 0
  · rw [if_pos c1] at hf
    refine r_tabIn C (v := 0) eX7_become_1 c1 47 48 ⟨by decide, rfl, by decide⟩ ?_
    refine r_aload_n C eX7_become_48 0 rfl rfl ?_
    refine r_iload_n C eX7_become_49 2 rfl rfl ?_
    refine r_put (ws' := W_Sh (z_g x) a0 o0 (upd (gSh_ints v0) 0 p2) (gSh_harm v0) (gLi_fast (gSh_lines v0)) (gLi_place (gSh_lines v0)) (gLi_post (gSh_lines v0)) (gLi_length (gSh_lines v0))) C eX7_become_50 PX7_27 0 rfl rfl rfl (Nat.le_of_ble_eq_true rfl) rfl ?_
    refine r_goto C eX7_become_53 ?_
    subst hf
    exact hret _ _ _ eX7_become_117
  rw [if_neg c1] at hf
  by_cases c2 : p1 = 1
  · rw [if_pos c2] at hf
    refine r_tabIn C (v := 1) eX7_become_1 c2 55 56 ⟨by decide, rfl, by decide⟩ ?_
    refine r_aload_n C eX7_become_56 0 rfl rfl ?_
    refine r_iload_n C eX7_become_57 2 rfl rfl ?_
    refine r_put (ws' := W_Sh (z_g x) a0 o0 (upd (gSh_ints v0) 1 p2) (gSh_harm v0) (gLi_fast (gSh_lines v0)) (gLi_place (gSh_lines v0)) (gLi_post (gSh_lines v0)) (gLi_length (gSh_lines v0))) C eX7_become_58 PX7_31 0 rfl rfl rfl (Nat.le_of_ble_eq_true rfl) rfl ?_
    refine r_goto C eX7_become_61 ?_
    subst hf
    exact hret _ _ _ eX7_become_117
  rw [if_neg c2] at hf
  by_cases c3 : p1 = 2
  · rw [if_pos c3] at hf
    refine r_tabIn C (v := 2) eX7_become_1 c3 63 64 ⟨by decide, rfl, by decide⟩ ?_
    refine r_aload_n C eX7_become_64 0 rfl rfl ?_
    refine r_iload_n C eX7_become_65 2 rfl rfl ?_
    refine r_put (ws' := W_Sh (z_g x) a0 o0 (upd (gSh_ints v0) 2 p2) (gSh_harm v0) (gLi_fast (gSh_lines v0)) (gLi_place (gSh_lines v0)) (gLi_post (gSh_lines v0)) (gLi_length (gSh_lines v0))) C eX7_become_66 PX7_61 0 rfl rfl rfl (Nat.le_of_ble_eq_true rfl) rfl ?_
    refine r_goto C eX7_become_69 ?_
    subst hf
    exact hret _ _ _ eX7_become_117
  rw [if_neg c3] at hf
  by_cases c4 : p1 = 3
  · rw [if_pos c4] at hf
    refine r_tabIn C (v := 3) eX7_become_1 c4 71 72 ⟨by decide, rfl, by decide⟩ ?_
    refine r_aload_n C eX7_become_72 0 rfl rfl ?_
    refine r_iload_n C eX7_become_73 2 rfl rfl ?_
    refine r_put (ws' := W_Sh (z_g x) a0 o0 (upd (gSh_ints v0) 3 p2) (gSh_harm v0) (gLi_fast (gSh_lines v0)) (gLi_place (gSh_lines v0)) (gLi_post (gSh_lines v0)) (gLi_length (gSh_lines v0))) C eX7_become_74 PX7_64 0 rfl rfl rfl (Nat.le_of_ble_eq_true rfl) rfl ?_
    refine r_goto C eX7_become_77 ?_
    subst hf
    exact hret _ _ _ eX7_become_117
  rw [if_neg c4] at hf
  by_cases c5 : p1 = 4
  · rw [if_pos c5] at hf
    refine r_tabIn C (v := 4) eX7_become_1 c5 79 80 ⟨by decide, rfl, by decide⟩ ?_
    refine r_aload_n C eX7_become_80 0 rfl rfl ?_
    refine r_iload_n C eX7_become_81 2 rfl rfl ?_
    refine r_put (ws' := W_Sh (z_g x) a0 o0 (upd (gSh_ints v0) 4 p2) (gSh_harm v0) (gLi_fast (gSh_lines v0)) (gLi_place (gSh_lines v0)) (gLi_post (gSh_lines v0)) (gLi_length (gSh_lines v0))) C eX7_become_82 PX7_67 0 rfl rfl rfl (Nat.le_of_ble_eq_true rfl) rfl ?_
    refine r_goto C eX7_become_85 ?_
    subst hf
    exact hret _ _ _ eX7_become_117
  rw [if_neg c5] at hf
  by_cases c6 : p1 = 5
  · rw [if_pos c6] at hf
    refine r_tabIn C (v := 5) eX7_become_1 c6 87 88 ⟨by decide, rfl, by decide⟩ ?_
    refine r_aload_n C eX7_become_88 0 rfl rfl ?_
    refine r_iload_n C eX7_become_89 2 rfl rfl ?_
    refine r_put (ws' := W_Sh (z_g x) a0 o0 (upd (gSh_ints v0) 5 p2) (gSh_harm v0) (gLi_fast (gSh_lines v0)) (gLi_place (gSh_lines v0)) (gLi_post (gSh_lines v0)) (gLi_length (gSh_lines v0))) C eX7_become_90 PX7_70 0 rfl rfl rfl (Nat.le_of_ble_eq_true rfl) rfl ?_
    refine r_goto C eX7_become_93 ?_
    subst hf
    exact hret _ _ _ eX7_become_117
  rw [if_neg c6] at hf
  by_cases c7 : p1 = 6
  · rw [if_pos c7] at hf
    refine r_tabIn C (v := 6) eX7_become_1 c7 95 96 ⟨by decide, rfl, by decide⟩ ?_
    refine r_aload_n C eX7_become_96 0 rfl rfl ?_
    refine r_iload_n C eX7_become_97 2 rfl rfl ?_
    refine r_put (ws' := W_Sh (z_g x) a0 o0 (upd (gSh_ints v0) 6 p2) (gSh_harm v0) (gLi_fast (gSh_lines v0)) (gLi_place (gSh_lines v0)) (gLi_post (gSh_lines v0)) (gLi_length (gSh_lines v0))) C eX7_become_98 PX7_73 0 rfl rfl rfl (Nat.le_of_ble_eq_true rfl) rfl ?_
    refine r_goto C eX7_become_101 ?_
    subst hf
    exact hret _ _ _ eX7_become_117
  rw [if_neg c7] at hf
  by_cases c8 : p1 = 7
  · rw [if_pos c8] at hf
    refine r_tabIn C (v := 7) eX7_become_1 c8 103 104 ⟨by decide, rfl, by decide⟩ ?_
    refine r_aload_n C eX7_become_104 0 rfl rfl ?_
    refine r_iload_n C eX7_become_105 2 rfl rfl ?_
    refine r_put (ws' := W_Sh (z_g x) a0 o0 (upd (gSh_ints v0) 7 p2) (gSh_harm v0) (gLi_fast (gSh_lines v0)) (gLi_place (gSh_lines v0)) (gLi_post (gSh_lines v0)) (gLi_length (gSh_lines v0))) C eX7_become_106 PX7_76 0 rfl rfl rfl (Nat.le_of_ble_eq_true rfl) rfl ?_
    refine r_goto C eX7_become_109 ?_
    subst hf
    exact hret _ _ _ eX7_become_117
  rw [if_neg c8] at hf
  refine r_tabOut C eX7_become_1 (fun i h1 h2 => by rcases (show i = 0 ∨ i = 1 ∨ i = 2 ∨ i = 3 ∨ i = 4 ∨ i = 5 ∨ i = 6 ∨ i = 7 by omega) with rfl | rfl | rfl | rfl | rfl | rfl | rfl | rfl <;> assumption) 112 (by decide) ?_
  refine r_aload_n C eX7_become_112 0 rfl rfl ?_
  refine r_iload_n C eX7_become_113 2 rfl rfl ?_
  refine r_put (ws' := W_Sh (z_g x) a0 o0 (upd (gSh_ints v0) 8 p2) (gSh_harm v0) (gLi_fast (gSh_lines v0)) (gLi_place (gSh_lines v0)) (gLi_post (gSh_lines v0)) (gLi_length (gSh_lines v0))) C eX7_become_114 PX7_79 0 rfl rfl rfl (Nat.le_of_ble_eq_true rfl) rfl ?_
  subst hf
  exact hret _ _ _ eX7_become_117
theorem eX7_becomeFirst_0 : zd 1 cX7_becomeFirst 0 1 (.iconst 0) := ⟨by decide +kernel, rfl⟩
theorem eX7_becomeFirst_1 : zd 1 cX7_becomeFirst 1 2 (.istore_n 1) := ⟨by decide +kernel, rfl⟩
theorem eX7_becomeFirst_2 : zd 1 cX7_becomeFirst 2 3 (.iload_n 1) := ⟨by decide +kernel, rfl⟩
theorem eX7_becomeFirst_3 : zd 2 cX7_becomeFirst 3 5 (.bipush 9) := ⟨by decide +kernel, rfl⟩
theorem eX7_becomeFirst_5 : zdi cX7_becomeFirst 5 8 20 (.if_icmp .ge) := ⟨15, by decide +kernel, rfl, by decide⟩
theorem eX7_becomeFirst_8 : zd 1 cX7_becomeFirst 8 9 (.aload_n 0) := ⟨by decide +kernel, rfl⟩
theorem eX7_becomeFirst_9 : zd 1 cX7_becomeFirst 9 10 (.iload_n 1) := ⟨by decide +kernel, rfl⟩
theorem eX7_becomeFirst_10 : zd 1 cX7_becomeFirst 10 11 (.iconst 0) := ⟨by decide +kernel, rfl⟩
theorem eX7_becomeFirst_11 : zd 3 cX7_becomeFirst 11 14 (.invokevirtual 23) := ⟨by decide +kernel, rfl⟩
theorem eX7_becomeFirst_14 : zd 3 cX7_becomeFirst 14 17 (.iinc 1 1) := ⟨by decide +kernel, rfl⟩
theorem eX7_becomeFirst_17 : zdi cX7_becomeFirst 17 20 2 (.goto) := ⟨(-15), by decide +kernel, rfl, by decide⟩
theorem eX7_becomeFirst_20 : zd 1 cX7_becomeFirst 20 21 (.aload_n 0) := ⟨by decide +kernel, rfl⟩
theorem eX7_becomeFirst_21 : zd 3 cX7_becomeFirst 21 24 (.sipush 4500) := ⟨by decide +kernel, rfl⟩
theorem eX7_becomeFirst_24 : zd 3 cX7_becomeFirst 24 27 (.putfield 27) := ⟨by decide +kernel, rfl⟩
theorem eX7_becomeFirst_27 : zd 1 cX7_becomeFirst 27 28 (.aload_n 0) := ⟨by decide +kernel, rfl⟩
theorem eX7_becomeFirst_28 : zd 3 cX7_becomeFirst 28 31 (.sipush 3000) := ⟨by decide +kernel, rfl⟩
theorem eX7_becomeFirst_31 : zd 3 cX7_becomeFirst 31 34 (.putfield 31) := ⟨by decide +kernel, rfl⟩
theorem eX7_becomeFirst_34 : zd 1 cX7_becomeFirst 34 35 (.aload_n 0) := ⟨by decide +kernel, rfl⟩
theorem eX7_becomeFirst_35 : zd 1 cX7_becomeFirst 35 36 (.iconst 0) := ⟨by decide +kernel, rfl⟩
theorem eX7_becomeFirst_36 : zd 3 cX7_becomeFirst 36 39 (.putfield 34) := ⟨by decide +kernel, rfl⟩
theorem eX7_becomeFirst_39 : zd 1 cX7_becomeFirst 39 40 (.aload_n 0) := ⟨by decide +kernel, rfl⟩
theorem eX7_becomeFirst_40 : zd 1 cX7_becomeFirst 40 41 (.iconst 0) := ⟨by decide +kernel, rfl⟩
theorem eX7_becomeFirst_41 : zd 3 cX7_becomeFirst 41 44 (.putfield 37) := ⟨by decide +kernel, rfl⟩
theorem eX7_becomeFirst_44 : zd 1 cX7_becomeFirst 44 45 (.aload_n 0) := ⟨by decide +kernel, rfl⟩
theorem eX7_becomeFirst_45 : zd 1 cX7_becomeFirst 45 46 (.iconst 0) := ⟨by decide +kernel, rfl⟩
theorem eX7_becomeFirst_46 : zd 3 cX7_becomeFirst 46 49 (.putfield 40) := ⟨by decide +kernel, rfl⟩
theorem eX7_becomeFirst_49 : zd 1 cX7_becomeFirst 49 50 (.aload_n 0) := ⟨by decide +kernel, rfl⟩
theorem eX7_becomeFirst_50 : zd 1 cX7_becomeFirst 50 51 (.lconst 0) := ⟨by decide +kernel, rfl⟩
theorem eX7_becomeFirst_51 : zd 3 cX7_becomeFirst 51 54 (.putfield 43) := ⟨by decide +kernel, rfl⟩
theorem eX7_becomeFirst_54 : zd 1 cX7_becomeFirst 54 55 (.aload_n 0) := ⟨by decide +kernel, rfl⟩
theorem eX7_becomeFirst_55 : zd 3 cX7_becomeFirst 55 58 (.getfield 10) := ⟨by decide +kernel, rfl⟩
theorem eX7_becomeFirst_58 : zd 3 cX7_becomeFirst 58 61 (.invokevirtual 47) := ⟨by decide +kernel, rfl⟩
theorem eX7_becomeFirst_61 : zd 1 cX7_becomeFirst 61 62 (.return_) := ⟨by decide +kernel, rfl⟩
theorem FX7_10 : zlF RX7 10 7 14 := ⟨(RX7, TX7, 18), rfl, by decide, q255, zin7⟩
theorem PX7_34 : zlP RX7 34 7 9 .int := ⟨(RX7, TX7, 18), tyX7, rfl, by decide, q247, zin7, tyX7_ok, nmX7, rfl, by decide +kernel⟩
theorem PX7_37 : zlP RX7 37 7 10 .int := ⟨(RX7, TX7, 18), tyX7, rfl, by decide, q248, zin7, tyX7_ok, nmX7, rfl, by decide +kernel⟩
theorem PX7_40 : zlP RX7 40 7 11 .int := ⟨(RX7, TX7, 18), tyX7, rfl, by decide, q249, zin7, tyX7_ok, nmX7, rfl, by decide +kernel⟩
theorem MX7_23 : zlV RX7 23 yX7_become cX7_become 3 (none) 2 := ⟨q366, q367, q368, q7, q369, by decide, by decide, by decide +kernel⟩
theorem MX7_47 : zlV RX7 47 yX1_letAllGo cX1_letAllGo 2 (none) 0 := ⟨q370, q371, q372, q8, q373, by decide, by decide, by decide +kernel⟩
noncomputable def fB_Sh_becomeFirst_2 (v0 : tSh) (ih : (Int32 × (Nat → Int32)) → Option (Int32 × (Nat → Int32))) (s1 : Int32 × (Nat → Int32)) : Option (Int32 × (Nat → Int32)) := (if 9 ≤ (s1.1) then (some ((s1.1), (s1.2))) else (zlet (f_Sh_become ((s1.2), (gSh_harm v0), (gSh_lines v0)) (s1.1) 0) (fun (r7 : (Nat → Int32)) => (ih (((s1.1) + 1), r7)))))
noncomputable def f_Sh_becomeFirst (v0 : tSh)  : Option ((Nat → Int32) × Int64 × (Nat → Int32)) := (Option.bind (lp (fB_Sh_becomeFirst_2 v0) LF (0, (gSh_ints v0))) (fun (q2 : Int32 × (Nat → Int32)) => (Option.bind (f_Li_letAllGo (gSh_lines v0)) (fun (r8 : (Nat → Int32)) => (some ((upd (upd (upd (upd (upd (q2.2) 0 4500) 1 3000) 9 0) 10 0) 11 0), 0, r8))))))
abbrev rm_Sh_becomeFirst : Room := { frames := 1, cells := 0, slots := 0, locals := 22 }
set_option maxHeartbeats 4000000 in
set_option maxRecDepth 100000 in
theorem c_Sh_becomeFirst (l : Launch) (g : zGl) (a0 : Nat → Nat) (o0 : Nat) (v0 : tSh)  (out : (Nat → Int32) × Int64 × (Nat → Int32)) (hf : f_Sh_becomeFirst v0 = some out) : zMv l yX7_becomeFirst cX7_becomeFirst 2 rm_Sh_becomeFirst g [.ref (a0 o0)] (W_Sh g a0 o0 (gSh_ints v0) (gSh_harm v0) (gLi_fast (gSh_lines v0)) (gLi_place (gSh_lines v0)) (gLi_post (gSh_lines v0)) (gLi_length (gSh_lines v0)))  (W_Sh g a0 o0 (out.1) (out.2.1) (out.2.2) (gLi_place (gSh_lines v0)) (gLi_post (gSh_lines v0)) (gLi_length (gSh_lines v0))) := by
  refine zMv_of (lv := [(0, .ref (a0 o0))]) (by decide) (Nat.le_of_ble_eq_true rfl) rfl (fun x hl hg C hret => ?_)
  subst hl; subst hg
  rw [f_Sh_becomeFirst] at hf
  refine r_iconst C (v := 0) eX7_becomeFirst_0 (by decide) ?_
  refine r_istore_n C [(1, .int 0), (0, .ref (a0 o0))] eX7_becomeFirst_1 rfl (by decide) rfl ?_
  obtain ⟨q2, h3, hf⟩ := zbind hf
  have J4 : vV x 2 0 0 (W_Sh (z_g x) a0 o0 (q2.2) (gSh_harm v0) (gLi_fast (gSh_lines v0)) (gLi_place (gSh_lines v0)) (gLi_post (gSh_lines v0)) (gLi_length (gSh_lines v0))) 20 [(0, .ref (a0 o0))] [] := by
    refine r_aload_n C eX7_becomeFirst_20 0 rfl rfl ?_
    refine r_sipush C (v := 4500) eX7_becomeFirst_21 (by decide) ?_
    refine r_put (ws' := W_Sh (z_g x) a0 o0 (upd (q2.2) 0 4500) (gSh_harm v0) (gLi_fast (gSh_lines v0)) (gLi_place (gSh_lines v0)) (gLi_post (gSh_lines v0)) (gLi_length (gSh_lines v0))) C eX7_becomeFirst_24 PX7_27 0 rfl rfl rfl (Nat.le_of_ble_eq_true rfl) rfl ?_
    refine r_aload_n C eX7_becomeFirst_27 0 rfl rfl ?_
    refine r_sipush C (v := 3000) eX7_becomeFirst_28 (by decide) ?_
    refine r_put (ws' := W_Sh (z_g x) a0 o0 (upd (upd (q2.2) 0 4500) 1 3000) (gSh_harm v0) (gLi_fast (gSh_lines v0)) (gLi_place (gSh_lines v0)) (gLi_post (gSh_lines v0)) (gLi_length (gSh_lines v0))) C eX7_becomeFirst_31 PX7_31 0 rfl rfl rfl (Nat.le_of_ble_eq_true rfl) rfl ?_
    refine r_aload_n C eX7_becomeFirst_34 0 rfl rfl ?_
    refine r_iconst C (v := 0) eX7_becomeFirst_35 (by decide) ?_
    refine r_put (ws' := W_Sh (z_g x) a0 o0 (upd (upd (upd (q2.2) 0 4500) 1 3000) 9 0) (gSh_harm v0) (gLi_fast (gSh_lines v0)) (gLi_place (gSh_lines v0)) (gLi_post (gSh_lines v0)) (gLi_length (gSh_lines v0))) C eX7_becomeFirst_36 PX7_34 0 rfl rfl rfl (Nat.le_of_ble_eq_true rfl) rfl ?_
    refine r_aload_n C eX7_becomeFirst_39 0 rfl rfl ?_
    refine r_iconst C (v := 0) eX7_becomeFirst_40 (by decide) ?_
    refine r_put (ws' := W_Sh (z_g x) a0 o0 (upd (upd (upd (upd (q2.2) 0 4500) 1 3000) 9 0) 10 0) (gSh_harm v0) (gLi_fast (gSh_lines v0)) (gLi_place (gSh_lines v0)) (gLi_post (gSh_lines v0)) (gLi_length (gSh_lines v0))) C eX7_becomeFirst_41 PX7_37 0 rfl rfl rfl (Nat.le_of_ble_eq_true rfl) rfl ?_
    refine r_aload_n C eX7_becomeFirst_44 0 rfl rfl ?_
    refine r_iconst C (v := 0) eX7_becomeFirst_45 (by decide) ?_
    refine r_put (ws' := W_Sh (z_g x) a0 o0 (upd (upd (upd (upd (upd (q2.2) 0 4500) 1 3000) 9 0) 10 0) 11 0) (gSh_harm v0) (gLi_fast (gSh_lines v0)) (gLi_place (gSh_lines v0)) (gLi_post (gSh_lines v0)) (gLi_length (gSh_lines v0))) C eX7_becomeFirst_46 PX7_40 0 rfl rfl rfl (Nat.le_of_ble_eq_true rfl) rfl ?_
    refine r_aload_n C eX7_becomeFirst_49 0 rfl rfl ?_
    refine r_lconst C (v := 0) eX7_becomeFirst_50 (by decide) ?_
    refine r_put (ws' := W_Sh (z_g x) a0 o0 (upd (upd (upd (upd (upd (q2.2) 0 4500) 1 3000) 9 0) 10 0) 11 0) 0 (gLi_fast (gSh_lines v0)) (gLi_place (gSh_lines v0)) (gLi_post (gSh_lines v0)) (gLi_length (gSh_lines v0))) C eX7_becomeFirst_51 PX7_43 0 rfl rfl rfl (Nat.le_of_ble_eq_true rfl) rfl ?_
    refine r_aload_n C eX7_becomeFirst_54 0 rfl rfl ?_
    refine r_get (v := .ref (a0 (o0 + 1))) C eX7_becomeFirst_55 FX7_10 0 rfl rfl ?_
    obtain ⟨r8, hr8, hf⟩ := zbind hf
    refine r_V_v (ws' := W_Sh (z_g x) a0 o0 (upd (upd (upd (upd (upd (q2.2) 0 4500) 1 3000) 9 0) 10 0) 11 0) 0 r8 (gLi_place (gSh_lines v0)) (gLi_post (gSh_lines v0)) (gLi_length (gSh_lines v0))) C (c_Li_letAllGo (z_l x) (z_g x) a0 (o0 + 1) (gSh_lines v0)  r8 hr8) eX7_becomeFirst_58 MX7_47 ⟨0, 1, _, _, rfl, rfl, rfl⟩ [1, 2, 3, 4, 5] rfl rfl rfl rfl [0] rfl ⟨rfl, trivial⟩ 6 rfl rfl rfl rfl rfl rfl ?_
    obtain rfl := Option.some.inj (show some (((upd (upd (upd (upd (upd (q2.2) 0 4500) 1 3000) 9 0) 10 0) 11 0), 0, r8) : (Nat → Int32) × Int64 × (Nat → Int32)) = some _ from hf)
    exact hret _ _ _ eX7_becomeFirst_61
  have L5 : ∀ (nL5 : Nat) (s1 : Int32 × (Nat → Int32)), lp (fB_Sh_becomeFirst_2 v0) nL5 s1 = some q2 → vV x 2 0 0 (W_Sh (z_g x) a0 o0 (s1.2) (gSh_harm v0) (gLi_fast (gSh_lines v0)) (gLi_place (gSh_lines v0)) (gLi_post (gSh_lines v0)) (gLi_length (gSh_lines v0))) 2 [(0, .ref (a0 o0)), (1, .int (s1.1))] [] := by
    intro nL5
    induction nL5 with
    | zero => intro s1 hq; cases hq
    | succ nL5 ihL5 =>
      intro s1 hbL5
      rw [lp_succ, fB_Sh_becomeFirst_2] at hbL5
      refine r_iload_n C eX7_becomeFirst_2 1 rfl rfl ?_
      refine r_bipush C (v := 9) eX7_becomeFirst_3 (by decide) ?_
      refine r_icmp_ge C eX7_becomeFirst_5 (fun c6 => ?_) (fun c6 => ?_)
      · rw [if_pos c6] at hbL5
        obtain rfl := Option.some.inj hbL5
        refine r_sub (lv' := [(0, .ref (a0 o0))]) [0] rfl ?_
        exact J4
      · rw [if_neg c6] at hbL5
        refine r_aload_n C eX7_becomeFirst_8 0 rfl rfl ?_
        refine r_iload_n C eX7_becomeFirst_9 1 rfl rfl ?_
        refine r_iconst C (v := 0) eX7_becomeFirst_10 (by decide) ?_
        obtain ⟨r7, hr7, hbL5⟩ := zlet_of hbL5
        refine r_V_v (ws' := W_Sh (z_g x) a0 o0 r7 (gSh_harm v0) (gLi_fast (gSh_lines v0)) (gLi_place (gSh_lines v0)) (gLi_post (gSh_lines v0)) (gLi_length (gSh_lines v0))) C (c_Sh_become (z_l x) (z_g x) a0 o0 ((s1.2), (gSh_harm v0), (gSh_lines v0)) (s1.1) 0 r7 hr7) eX7_becomeFirst_11 MX7_23 ⟨0, 7, _, _, rfl, rfl, rfl⟩ [0, 1, 2, 3, 4, 5] rfl rfl rfl rfl [] rfl trivial 6 rfl rfl rfl rfl rfl rfl ?_
        refine r_iinc C (v := ((s1.1) + 1)) [(1, .int ((s1.1) + 1)), (0, .ref (a0 o0))] eX7_becomeFirst_14 1 rfl rfl (by decide) rfl ?_
        refine r_goto C eX7_becomeFirst_17 ?_
        refine r_sub (lv' := [(0, .ref (a0 o0)), (1, .int ((s1.1) + 1))]) [1, 0] rfl ?_
        have hc := ihL5 (((s1.1) + 1), r7) hbL5
        exact hc
  refine r_sub (lv' := [(0, .ref (a0 o0)), (1, .int 0)]) [1, 0] rfl ?_
  have hc := L5 LF (0, (gSh_ints v0)) h3
  exact hc
theorem eX7_reading_0 : zd 1 cX7_reading 0 1 (.iload_n 1) := ⟨by decide +kernel, rfl⟩
theorem eX7_reading_1 : decode cX7_reading 1 = .ok (.tableswitch 127 0 12 #[67, 72, 77, 82, 87, 92, 97, 102, 107, 112, 127, 117, 122], 67) := by decide +kernel
theorem eX7_reading_68 : zd 1 cX7_reading 68 69 (.aload_n 0) := ⟨by decide +kernel, rfl⟩
theorem eX7_reading_69 : zd 3 cX7_reading 69 72 (.getfield 27) := ⟨by decide +kernel, rfl⟩
theorem eX7_reading_72 : zd 1 cX7_reading 72 73 (.ireturn) := ⟨by decide +kernel, rfl⟩
theorem eX7_reading_73 : zd 1 cX7_reading 73 74 (.aload_n 0) := ⟨by decide +kernel, rfl⟩
theorem eX7_reading_74 : zd 3 cX7_reading 74 77 (.getfield 31) := ⟨by decide +kernel, rfl⟩
theorem eX7_reading_77 : zd 1 cX7_reading 77 78 (.ireturn) := ⟨by decide +kernel, rfl⟩
theorem eX7_reading_78 : zd 1 cX7_reading 78 79 (.aload_n 0) := ⟨by decide +kernel, rfl⟩
theorem eX7_reading_79 : zd 3 cX7_reading 79 82 (.getfield 61) := ⟨by decide +kernel, rfl⟩
theorem eX7_reading_82 : zd 1 cX7_reading 82 83 (.ireturn) := ⟨by decide +kernel, rfl⟩
theorem eX7_reading_83 : zd 1 cX7_reading 83 84 (.aload_n 0) := ⟨by decide +kernel, rfl⟩
theorem eX7_reading_84 : zd 3 cX7_reading 84 87 (.getfield 64) := ⟨by decide +kernel, rfl⟩
theorem eX7_reading_87 : zd 1 cX7_reading 87 88 (.ireturn) := ⟨by decide +kernel, rfl⟩
theorem eX7_reading_88 : zd 1 cX7_reading 88 89 (.aload_n 0) := ⟨by decide +kernel, rfl⟩
theorem eX7_reading_89 : zd 3 cX7_reading 89 92 (.getfield 67) := ⟨by decide +kernel, rfl⟩
theorem eX7_reading_92 : zd 1 cX7_reading 92 93 (.ireturn) := ⟨by decide +kernel, rfl⟩
theorem eX7_reading_93 : zd 1 cX7_reading 93 94 (.aload_n 0) := ⟨by decide +kernel, rfl⟩
theorem eX7_reading_94 : zd 3 cX7_reading 94 97 (.getfield 70) := ⟨by decide +kernel, rfl⟩
theorem eX7_reading_97 : zd 1 cX7_reading 97 98 (.ireturn) := ⟨by decide +kernel, rfl⟩
theorem eX7_reading_98 : zd 1 cX7_reading 98 99 (.aload_n 0) := ⟨by decide +kernel, rfl⟩
theorem eX7_reading_99 : zd 3 cX7_reading 99 102 (.getfield 73) := ⟨by decide +kernel, rfl⟩
theorem eX7_reading_102 : zd 1 cX7_reading 102 103 (.ireturn) := ⟨by decide +kernel, rfl⟩
theorem eX7_reading_103 : zd 1 cX7_reading 103 104 (.aload_n 0) := ⟨by decide +kernel, rfl⟩
theorem eX7_reading_104 : zd 3 cX7_reading 104 107 (.getfield 76) := ⟨by decide +kernel, rfl⟩
theorem eX7_reading_107 : zd 1 cX7_reading 107 108 (.ireturn) := ⟨by decide +kernel, rfl⟩
theorem eX7_reading_108 : zd 1 cX7_reading 108 109 (.aload_n 0) := ⟨by decide +kernel, rfl⟩
theorem eX7_reading_109 : zd 3 cX7_reading 109 112 (.getfield 79) := ⟨by decide +kernel, rfl⟩
theorem eX7_reading_112 : zd 1 cX7_reading 112 113 (.ireturn) := ⟨by decide +kernel, rfl⟩
theorem eX7_reading_113 : zd 1 cX7_reading 113 114 (.aload_n 0) := ⟨by decide +kernel, rfl⟩
theorem eX7_reading_114 : zd 3 cX7_reading 114 117 (.getfield 34) := ⟨by decide +kernel, rfl⟩
theorem eX7_reading_117 : zd 1 cX7_reading 117 118 (.ireturn) := ⟨by decide +kernel, rfl⟩
theorem eX7_reading_118 : zd 1 cX7_reading 118 119 (.aload_n 0) := ⟨by decide +kernel, rfl⟩
theorem eX7_reading_119 : zd 3 cX7_reading 119 122 (.getfield 37) := ⟨by decide +kernel, rfl⟩
theorem eX7_reading_122 : zd 1 cX7_reading 122 123 (.ireturn) := ⟨by decide +kernel, rfl⟩
theorem eX7_reading_123 : zd 1 cX7_reading 123 124 (.aload_n 0) := ⟨by decide +kernel, rfl⟩
theorem eX7_reading_124 : zd 3 cX7_reading 124 127 (.getfield 40) := ⟨by decide +kernel, rfl⟩
theorem eX7_reading_127 : zd 1 cX7_reading 127 128 (.ireturn) := ⟨by decide +kernel, rfl⟩
theorem eX7_reading_128 : zd 1 cX7_reading 128 129 (.aload_n 0) := ⟨by decide +kernel, rfl⟩
theorem eX7_reading_129 : zd 3 cX7_reading 129 132 (.getfield 10) := ⟨by decide +kernel, rfl⟩
theorem eX7_reading_132 : zd 3 cX7_reading 132 135 (.invokevirtual 82) := ⟨by decide +kernel, rfl⟩
theorem eX7_reading_135 : zd 1 cX7_reading 135 136 (.ireturn) := ⟨by decide +kernel, rfl⟩
theorem FX7_27 : zlF RX7 27 7 0 := ⟨(RX7, TX7, 18), rfl, by decide, q231, zin7⟩
theorem FX7_31 : zlF RX7 31 7 1 := ⟨(RX7, TX7, 18), rfl, by decide, q233, zin7⟩
theorem FX7_34 : zlF RX7 34 7 9 := ⟨(RX7, TX7, 18), rfl, by decide, q247, zin7⟩
theorem FX7_37 : zlF RX7 37 7 10 := ⟨(RX7, TX7, 18), rfl, by decide, q248, zin7⟩
theorem FX7_40 : zlF RX7 40 7 11 := ⟨(RX7, TX7, 18), rfl, by decide, q249, zin7⟩
theorem FX7_61 : zlF RX7 61 7 2 := ⟨(RX7, TX7, 18), rfl, by decide, q234, zin7⟩
theorem FX7_64 : zlF RX7 64 7 3 := ⟨(RX7, TX7, 18), rfl, by decide, q236, zin7⟩
theorem FX7_67 : zlF RX7 67 7 4 := ⟨(RX7, TX7, 18), rfl, by decide, q237, zin7⟩
theorem FX7_70 : zlF RX7 70 7 5 := ⟨(RX7, TX7, 18), rfl, by decide, q238, zin7⟩
theorem FX7_73 : zlF RX7 73 7 6 := ⟨(RX7, TX7, 18), rfl, by decide, q241, zin7⟩
theorem FX7_76 : zlF RX7 76 7 7 := ⟨(RX7, TX7, 18), rfl, by decide, q244, zin7⟩
theorem FX7_79 : zlF RX7 79 7 8 := ⟨(RX7, TX7, 18), rfl, by decide, q245, zin7⟩
theorem MX7_82 : zlV RX7 82 yX1_count cX1_count 3 ((Option.some FieldType.int)) 0 := ⟨q673, q674, q675, q8, q676, by decide, by decide, by decide +kernel⟩
noncomputable def f_Sh_reading (v0 : tSh) (p1 : Int32) : Option (Int32) := (if p1 = 0 then (some ((gSh_ints v0) 0)) else (if p1 = 1 then (some ((gSh_ints v0) 1)) else (if p1 = 2 then (some ((gSh_ints v0) 2)) else (if p1 = 3 then (some ((gSh_ints v0) 3)) else (if p1 = 4 then (some ((gSh_ints v0) 4)) else (if p1 = 5 then (some ((gSh_ints v0) 5)) else (if p1 = 6 then (some ((gSh_ints v0) 6)) else (if p1 = 7 then (some ((gSh_ints v0) 7)) else (if p1 = 8 then (some ((gSh_ints v0) 8)) else (if p1 = 9 then (some ((gSh_ints v0) 9)) else (if p1 = 10 then (Option.bind (f_Li_count (gSh_lines v0)) (fun (r14 : Int32) => (some r14))) else (if p1 = 11 then (some ((gSh_ints v0) 10)) else (if p1 = 12 then (some ((gSh_ints v0) 11)) else (Option.bind (f_Li_count (gSh_lines v0)) (fun (r15 : Int32) => (some r15))))))))))))))))
abbrev rm_Sh_reading : Room := { frames := 1, cells := 0, slots := 0, locals := 22 }
set_option maxHeartbeats 4000000 in
set_option maxRecDepth 100000 in
theorem c_Sh_reading (l : Launch) (g : zGl) (a0 : Nat → Nat) (o0 : Nat) (v0 : tSh) (p1 : Int32) (out : Int32) (hf : f_Sh_reading v0 p1 = some out) : zMi l yX7_reading cX7_reading 2 rm_Sh_reading g [.ref (a0 o0), .int p1] (W_Sh g a0 o0 (gSh_ints v0) (gSh_harm v0) (gLi_fast (gSh_lines v0)) (gLi_place (gSh_lines v0)) (gLi_post (gSh_lines v0)) (gLi_length (gSh_lines v0))) out (W_Sh g a0 o0 (gSh_ints v0) (gSh_harm v0) (gLi_fast (gSh_lines v0)) (gLi_place (gSh_lines v0)) (gLi_post (gSh_lines v0)) (gLi_length (gSh_lines v0))) := by
  refine zMi_of (lv := [(0, .ref (a0 o0)), (1, .int p1)]) (by decide) (Nat.le_of_ble_eq_true rfl) rfl (fun x hl hg C hret => ?_)
  subst hl; subst hg
  rw [f_Sh_reading] at hf
  refine r_iload_n C eX7_reading_0 1 rfl rfl ?_
  by_cases c1 : p1 = 0
  · rw [if_pos c1] at hf
    refine r_tabIn C (v := 0) eX7_reading_1 c1 67 68 ⟨by decide, rfl, by decide⟩ ?_
    refine r_aload_n C eX7_reading_68 0 rfl rfl ?_
    refine r_get (v := .int ((gSh_ints v0) 0)) C eX7_reading_69 FX7_27 0 rfl rfl ?_
    obtain rfl := Option.some.inj (show some (((gSh_ints v0) 0) : Int32) = some _ from hf)
    exact hret _ _ _ eX7_reading_72
  rw [if_neg c1] at hf
  by_cases c2 : p1 = 1
  · rw [if_pos c2] at hf
    refine r_tabIn C (v := 1) eX7_reading_1 c2 72 73 ⟨by decide, rfl, by decide⟩ ?_
    refine r_aload_n C eX7_reading_73 0 rfl rfl ?_
    refine r_get (v := .int ((gSh_ints v0) 1)) C eX7_reading_74 FX7_31 0 rfl rfl ?_
    obtain rfl := Option.some.inj (show some (((gSh_ints v0) 1) : Int32) = some _ from hf)
    exact hret _ _ _ eX7_reading_77
  rw [if_neg c2] at hf
  by_cases c3 : p1 = 2
  · rw [if_pos c3] at hf
    refine r_tabIn C (v := 2) eX7_reading_1 c3 77 78 ⟨by decide, rfl, by decide⟩ ?_
    refine r_aload_n C eX7_reading_78 0 rfl rfl ?_
    refine r_get (v := .int ((gSh_ints v0) 2)) C eX7_reading_79 FX7_61 0 rfl rfl ?_
    obtain rfl := Option.some.inj (show some (((gSh_ints v0) 2) : Int32) = some _ from hf)
    exact hret _ _ _ eX7_reading_82
  rw [if_neg c3] at hf
  by_cases c4 : p1 = 3
  · rw [if_pos c4] at hf
    refine r_tabIn C (v := 3) eX7_reading_1 c4 82 83 ⟨by decide, rfl, by decide⟩ ?_
    refine r_aload_n C eX7_reading_83 0 rfl rfl ?_
    refine r_get (v := .int ((gSh_ints v0) 3)) C eX7_reading_84 FX7_64 0 rfl rfl ?_
    obtain rfl := Option.some.inj (show some (((gSh_ints v0) 3) : Int32) = some _ from hf)
    exact hret _ _ _ eX7_reading_87
  rw [if_neg c4] at hf
  by_cases c5 : p1 = 4
  · rw [if_pos c5] at hf
    refine r_tabIn C (v := 4) eX7_reading_1 c5 87 88 ⟨by decide, rfl, by decide⟩ ?_
    refine r_aload_n C eX7_reading_88 0 rfl rfl ?_
    refine r_get (v := .int ((gSh_ints v0) 4)) C eX7_reading_89 FX7_67 0 rfl rfl ?_
    obtain rfl := Option.some.inj (show some (((gSh_ints v0) 4) : Int32) = some _ from hf)
    exact hret _ _ _ eX7_reading_92
  rw [if_neg c5] at hf
  by_cases c6 : p1 = 5
  · rw [if_pos c6] at hf
    refine r_tabIn C (v := 5) eX7_reading_1 c6 92 93 ⟨by decide, rfl, by decide⟩ ?_
    refine r_aload_n C eX7_reading_93 0 rfl rfl ?_
    refine r_get (v := .int ((gSh_ints v0) 5)) C eX7_reading_94 FX7_70 0 rfl rfl ?_
    obtain rfl := Option.some.inj (show some (((gSh_ints v0) 5) : Int32) = some _ from hf)
    exact hret _ _ _ eX7_reading_97
  rw [if_neg c6] at hf
  by_cases c7 : p1 = 6
  · rw [if_pos c7] at hf
    refine r_tabIn C (v := 6) eX7_reading_1 c7 97 98 ⟨by decide, rfl, by decide⟩ ?_
    refine r_aload_n C eX7_reading_98 0 rfl rfl ?_
    refine r_get (v := .int ((gSh_ints v0) 6)) C eX7_reading_99 FX7_73 0 rfl rfl ?_
    obtain rfl := Option.some.inj (show some (((gSh_ints v0) 6) : Int32) = some _ from hf)
    exact hret _ _ _ eX7_reading_102
  rw [if_neg c7] at hf
  by_cases c8 : p1 = 7
  · rw [if_pos c8] at hf
    refine r_tabIn C (v := 7) eX7_reading_1 c8 102 103 ⟨by decide, rfl, by decide⟩ ?_
    refine r_aload_n C eX7_reading_103 0 rfl rfl ?_
    refine r_get (v := .int ((gSh_ints v0) 7)) C eX7_reading_104 FX7_76 0 rfl rfl ?_
    obtain rfl := Option.some.inj (show some (((gSh_ints v0) 7) : Int32) = some _ from hf)
    exact hret _ _ _ eX7_reading_107
  rw [if_neg c8] at hf
  by_cases c9 : p1 = 8
  · rw [if_pos c9] at hf
    refine r_tabIn C (v := 8) eX7_reading_1 c9 107 108 ⟨by decide, rfl, by decide⟩ ?_
    refine r_aload_n C eX7_reading_108 0 rfl rfl ?_
    refine r_get (v := .int ((gSh_ints v0) 8)) C eX7_reading_109 FX7_79 0 rfl rfl ?_
    obtain rfl := Option.some.inj (show some (((gSh_ints v0) 8) : Int32) = some _ from hf)
    exact hret _ _ _ eX7_reading_112
  rw [if_neg c9] at hf
  by_cases c10 : p1 = 9
  · rw [if_pos c10] at hf
    refine r_tabIn C (v := 9) eX7_reading_1 c10 112 113 ⟨by decide, rfl, by decide⟩ ?_
    refine r_aload_n C eX7_reading_113 0 rfl rfl ?_
    refine r_get (v := .int ((gSh_ints v0) 9)) C eX7_reading_114 FX7_34 0 rfl rfl ?_
    obtain rfl := Option.some.inj (show some (((gSh_ints v0) 9) : Int32) = some _ from hf)
    exact hret _ _ _ eX7_reading_117
  rw [if_neg c10] at hf
  by_cases c11 : p1 = 10
  · rw [if_pos c11] at hf
    refine r_tabIn C (v := 10) eX7_reading_1 c11 127 128 ⟨by decide, rfl, by decide⟩ ?_
    refine r_aload_n C eX7_reading_128 0 rfl rfl ?_
    refine r_get (v := .ref (a0 (o0 + 1))) C eX7_reading_129 FX7_10 0 rfl rfl ?_
    obtain ⟨r14, hr14, hf⟩ := zbind hf
    refine r_V_i (ws' := W_Sh (z_g x) a0 o0 (gSh_ints v0) (gSh_harm v0) (gLi_fast (gSh_lines v0)) (gLi_place (gSh_lines v0)) (gLi_post (gSh_lines v0)) (gLi_length (gSh_lines v0))) C (c_Li_count (z_l x) (z_g x) a0 (o0 + 1) (gSh_lines v0)  r14 hr14) eX7_reading_132 MX7_82 ⟨0, 1, _, _, rfl, rfl, rfl⟩ [1, 2, 3, 4, 5] rfl rfl rfl rfl [0] rfl ⟨rfl, trivial⟩ 6 rfl rfl rfl rfl rfl rfl ?_
    obtain rfl := Option.some.inj (show some (r14 : Int32) = some _ from hf)
    exact hret _ _ _ eX7_reading_135
  rw [if_neg c11] at hf
  by_cases c12 : p1 = 11
  · rw [if_pos c12] at hf
    refine r_tabIn C (v := 11) eX7_reading_1 c12 117 118 ⟨by decide, rfl, by decide⟩ ?_
    refine r_aload_n C eX7_reading_118 0 rfl rfl ?_
    refine r_get (v := .int ((gSh_ints v0) 10)) C eX7_reading_119 FX7_37 0 rfl rfl ?_
    obtain rfl := Option.some.inj (show some (((gSh_ints v0) 10) : Int32) = some _ from hf)
    exact hret _ _ _ eX7_reading_122
  rw [if_neg c12] at hf
  by_cases c13 : p1 = 12
  · rw [if_pos c13] at hf
    refine r_tabIn C (v := 12) eX7_reading_1 c13 122 123 ⟨by decide, rfl, by decide⟩ ?_
    refine r_aload_n C eX7_reading_123 0 rfl rfl ?_
    refine r_get (v := .int ((gSh_ints v0) 11)) C eX7_reading_124 FX7_40 0 rfl rfl ?_
    obtain rfl := Option.some.inj (show some (((gSh_ints v0) 11) : Int32) = some _ from hf)
    exact hret _ _ _ eX7_reading_127
  rw [if_neg c13] at hf
  refine r_tabOut C eX7_reading_1 (fun i h1 h2 => by rcases (show i = 0 ∨ i = 1 ∨ i = 2 ∨ i = 3 ∨ i = 4 ∨ i = 5 ∨ i = 6 ∨ i = 7 ∨ i = 8 ∨ i = 9 ∨ i = 10 ∨ i = 11 ∨ i = 12 by omega) with rfl | rfl | rfl | rfl | rfl | rfl | rfl | rfl | rfl | rfl | rfl | rfl | rfl <;> assumption) 128 (by decide) ?_
  refine r_aload_n C eX7_reading_128 0 rfl rfl ?_
  refine r_get (v := .ref (a0 (o0 + 1))) C eX7_reading_129 FX7_10 0 rfl rfl ?_
  obtain ⟨r15, hr15, hf⟩ := zbind hf
  refine r_V_i (ws' := W_Sh (z_g x) a0 o0 (gSh_ints v0) (gSh_harm v0) (gLi_fast (gSh_lines v0)) (gLi_place (gSh_lines v0)) (gLi_post (gSh_lines v0)) (gLi_length (gSh_lines v0))) C (c_Li_count (z_l x) (z_g x) a0 (o0 + 1) (gSh_lines v0)  r15 hr15) eX7_reading_132 MX7_82 ⟨0, 1, _, _, rfl, rfl, rfl⟩ [1, 2, 3, 4, 5] rfl rfl rfl rfl [0] rfl ⟨rfl, trivial⟩ 6 rfl rfl rfl rfl rfl rfl ?_
  obtain rfl := Option.some.inj (show some (r15 : Int32) = some _ from hf)
  exact hret _ _ _ eX7_reading_135
theorem eX7_copyFrom_0 : zd 1 cX7_copyFrom 0 1 (.iconst 0) := ⟨by decide +kernel, rfl⟩
theorem eX7_copyFrom_1 : zd 1 cX7_copyFrom 1 2 (.istore_n 2) := ⟨by decide +kernel, rfl⟩
theorem eX7_copyFrom_2 : zd 1 cX7_copyFrom 2 3 (.iload_n 2) := ⟨by decide +kernel, rfl⟩
theorem eX7_copyFrom_3 : zd 2 cX7_copyFrom 3 5 (.bipush 9) := ⟨by decide +kernel, rfl⟩
theorem eX7_copyFrom_5 : zdi cX7_copyFrom 5 8 24 (.if_icmp .ge) := ⟨19, by decide +kernel, rfl, by decide⟩
theorem eX7_copyFrom_8 : zd 1 cX7_copyFrom 8 9 (.aload_n 0) := ⟨by decide +kernel, rfl⟩
theorem eX7_copyFrom_9 : zd 1 cX7_copyFrom 9 10 (.iload_n 2) := ⟨by decide +kernel, rfl⟩
theorem eX7_copyFrom_10 : zd 1 cX7_copyFrom 10 11 (.aload_n 1) := ⟨by decide +kernel, rfl⟩
theorem eX7_copyFrom_11 : zd 1 cX7_copyFrom 11 12 (.iload_n 2) := ⟨by decide +kernel, rfl⟩
theorem eX7_copyFrom_12 : zd 3 cX7_copyFrom 12 15 (.invokevirtual 50) := ⟨by decide +kernel, rfl⟩
theorem eX7_copyFrom_15 : zd 3 cX7_copyFrom 15 18 (.invokevirtual 23) := ⟨by decide +kernel, rfl⟩
theorem eX7_copyFrom_18 : zd 3 cX7_copyFrom 18 21 (.iinc 2 1) := ⟨by decide +kernel, rfl⟩
theorem eX7_copyFrom_21 : zdi cX7_copyFrom 21 24 2 (.goto) := ⟨(-19), by decide +kernel, rfl, by decide⟩
theorem eX7_copyFrom_24 : zd 1 cX7_copyFrom 24 25 (.aload_n 0) := ⟨by decide +kernel, rfl⟩
theorem eX7_copyFrom_25 : zd 1 cX7_copyFrom 25 26 (.aload_n 1) := ⟨by decide +kernel, rfl⟩
theorem eX7_copyFrom_26 : zd 3 cX7_copyFrom 26 29 (.getfield 34) := ⟨by decide +kernel, rfl⟩
theorem eX7_copyFrom_29 : zd 3 cX7_copyFrom 29 32 (.putfield 34) := ⟨by decide +kernel, rfl⟩
theorem eX7_copyFrom_32 : zd 1 cX7_copyFrom 32 33 (.aload_n 0) := ⟨by decide +kernel, rfl⟩
theorem eX7_copyFrom_33 : zd 1 cX7_copyFrom 33 34 (.aload_n 1) := ⟨by decide +kernel, rfl⟩
theorem eX7_copyFrom_34 : zd 3 cX7_copyFrom 34 37 (.getfield 37) := ⟨by decide +kernel, rfl⟩
theorem eX7_copyFrom_37 : zd 3 cX7_copyFrom 37 40 (.putfield 37) := ⟨by decide +kernel, rfl⟩
theorem eX7_copyFrom_40 : zd 1 cX7_copyFrom 40 41 (.aload_n 0) := ⟨by decide +kernel, rfl⟩
theorem eX7_copyFrom_41 : zd 1 cX7_copyFrom 41 42 (.aload_n 1) := ⟨by decide +kernel, rfl⟩
theorem eX7_copyFrom_42 : zd 3 cX7_copyFrom 42 45 (.getfield 40) := ⟨by decide +kernel, rfl⟩
theorem eX7_copyFrom_45 : zd 3 cX7_copyFrom 45 48 (.putfield 40) := ⟨by decide +kernel, rfl⟩
theorem eX7_copyFrom_48 : zd 1 cX7_copyFrom 48 49 (.aload_n 0) := ⟨by decide +kernel, rfl⟩
theorem eX7_copyFrom_49 : zd 1 cX7_copyFrom 49 50 (.aload_n 1) := ⟨by decide +kernel, rfl⟩
theorem eX7_copyFrom_50 : zd 3 cX7_copyFrom 50 53 (.getfield 54) := ⟨by decide +kernel, rfl⟩
theorem eX7_copyFrom_53 : zd 3 cX7_copyFrom 53 56 (.putfield 54) := ⟨by decide +kernel, rfl⟩
theorem eX7_copyFrom_56 : zd 1 cX7_copyFrom 56 57 (.aload_n 0) := ⟨by decide +kernel, rfl⟩
theorem eX7_copyFrom_57 : zd 1 cX7_copyFrom 57 58 (.aload_n 1) := ⟨by decide +kernel, rfl⟩
theorem eX7_copyFrom_58 : zd 3 cX7_copyFrom 58 61 (.getfield 43) := ⟨by decide +kernel, rfl⟩
theorem eX7_copyFrom_61 : zd 3 cX7_copyFrom 61 64 (.putfield 43) := ⟨by decide +kernel, rfl⟩
theorem eX7_copyFrom_64 : zd 1 cX7_copyFrom 64 65 (.aload_n 0) := ⟨by decide +kernel, rfl⟩
theorem eX7_copyFrom_65 : zd 3 cX7_copyFrom 65 68 (.getfield 10) := ⟨by decide +kernel, rfl⟩
theorem eX7_copyFrom_68 : zd 1 cX7_copyFrom 68 69 (.aload_n 1) := ⟨by decide +kernel, rfl⟩
theorem eX7_copyFrom_69 : zd 3 cX7_copyFrom 69 72 (.getfield 10) := ⟨by decide +kernel, rfl⟩
theorem eX7_copyFrom_72 : zd 3 cX7_copyFrom 72 75 (.invokevirtual 57) := ⟨by decide +kernel, rfl⟩
theorem eX7_copyFrom_75 : zd 1 cX7_copyFrom 75 76 (.return_) := ⟨by decide +kernel, rfl⟩
theorem FX7_54 : zlF RX7 54 7 12 := ⟨(RX7, TX7, 18), rfl, by decide, q250, zin7⟩
theorem PX7_54 : zlP RX7 54 7 12 .int := ⟨(RX7, TX7, 18), tyX7, rfl, by decide, q250, zin7, tyX7_ok, nmX7, rfl, by decide +kernel⟩
theorem MX7_50 : zlV RX7 50 yX7_reading cX7_reading 2 ((Option.some FieldType.int)) 1 := ⟨q878, q670, q671, q7, q672, by decide, by decide, by decide +kernel⟩
theorem MX7_57 : zlV RX7 57 yX1_copyFrom cX1_copyFrom 3 (none) 1 := ⟨q879, q880, q881, q8, q882, by decide, by decide, by decide +kernel⟩
noncomputable def fB_Sh_copyFrom_2 (v0 : tSh) (v1 : tSh) (ih : (Int32 × (Nat → Int32)) → Option (Int32 × (Nat → Int32))) (s1 : Int32 × (Nat → Int32)) : Option (Int32 × (Nat → Int32)) := (if 9 ≤ (s1.1) then (some ((s1.1), (s1.2))) else (Option.bind (f_Sh_reading v1 (s1.1)) (fun (r7 : Int32) => (zlet (f_Sh_become ((s1.2), (gSh_harm v0), (gSh_lines v0)) (s1.1) r7) (fun (r8 : (Nat → Int32)) => (ih (((s1.1) + 1), r8)))))))
noncomputable def f_Sh_copyFrom (v0 : tSh) (v1 : tSh)  : Option ((Nat → Int32) × Int64 × (Nat → Int32) × (Nat → Int32) × (Nat → Int32) × (Nat → Int32)) := (Option.bind (lp (fB_Sh_copyFrom_2 v0 v1) LF (0, (gSh_ints v0))) (fun (q2 : Int32 × (Nat → Int32)) => (Option.bind (f_Li_copyFrom (gSh_lines v0) (gSh_lines v1)) (fun (r9 : (Nat → Int32) × (Nat → Int32) × (Nat → Int32) × (Nat → Int32)) => (some ((upd (upd (upd (upd (q2.2) 9 ((gSh_ints v1) 9)) 10 ((gSh_ints v1) 10)) 11 ((gSh_ints v1) 11)) 12 ((gSh_ints v1) 12)), (gSh_harm v1), (r9.1), (r9.2.1), (r9.2.2.1), (r9.2.2.2)))))))
abbrev rm_Sh_copyFrom : Room := { frames := 2, cells := 0, slots := 0, locals := 43 }
set_option maxHeartbeats 4000000 in
set_option maxRecDepth 100000 in
theorem c_Sh_copyFrom (l : Launch) (g : zGl) (a0 : Nat → Nat) (o0 : Nat) (v0 : tSh) (a1 : Nat → Nat) (o1 : Nat) (v1 : tSh)  (out : (Nat → Int32) × Int64 × (Nat → Int32) × (Nat → Int32) × (Nat → Int32) × (Nat → Int32)) (hf : f_Sh_copyFrom v0 v1 = some out) : zMv l yX7_copyFrom cX7_copyFrom 3 rm_Sh_copyFrom g [.ref (a0 o0), .ref (a1 o1)] (W_Sh g a0 o0 (gSh_ints v0) (gSh_harm v0) (gLi_fast (gSh_lines v0)) (gLi_place (gSh_lines v0)) (gLi_post (gSh_lines v0)) (gLi_length (gSh_lines v0)) ++ W_Sh g a1 o1 (gSh_ints v1) (gSh_harm v1) (gLi_fast (gSh_lines v1)) (gLi_place (gSh_lines v1)) (gLi_post (gSh_lines v1)) (gLi_length (gSh_lines v1)))  (W_Sh g a0 o0 (out.1) (out.2.1) (out.2.2.1) (out.2.2.2.1) (out.2.2.2.2.1) (out.2.2.2.2.2) ++ W_Sh g a1 o1 (gSh_ints v1) (gSh_harm v1) (gLi_fast (gSh_lines v1)) (gLi_place (gSh_lines v1)) (gLi_post (gSh_lines v1)) (gLi_length (gSh_lines v1))) := by
  refine zMv_of (lv := [(0, .ref (a0 o0)), (1, .ref (a1 o1))]) (by decide) (Nat.le_of_ble_eq_true rfl) rfl (fun x hl hg C hret => ?_)
  subst hl; subst hg
  rw [f_Sh_copyFrom] at hf
  refine r_iconst C (v := 0) eX7_copyFrom_0 (by decide) ?_
  refine r_istore_n C [(2, .int 0), (0, .ref (a0 o0)), (1, .ref (a1 o1))] eX7_copyFrom_1 rfl (by decide) rfl ?_
  obtain ⟨q2, h3, hf⟩ := zbind hf
  have J4 : vV x 3 0 0 (W_Sh (z_g x) a0 o0 (q2.2) (gSh_harm v0) (gLi_fast (gSh_lines v0)) (gLi_place (gSh_lines v0)) (gLi_post (gSh_lines v0)) (gLi_length (gSh_lines v0)) ++ W_Sh (z_g x) a1 o1 (gSh_ints v1) (gSh_harm v1) (gLi_fast (gSh_lines v1)) (gLi_place (gSh_lines v1)) (gLi_post (gSh_lines v1)) (gLi_length (gSh_lines v1))) 24 [(0, .ref (a0 o0)), (1, .ref (a1 o1))] [] := by
    refine r_aload_n C eX7_copyFrom_24 0 rfl rfl ?_
    refine r_aload_n C eX7_copyFrom_25 1 rfl rfl ?_
    refine r_get (v := .int ((gSh_ints v1) 9)) C eX7_copyFrom_26 FX7_34 6 rfl rfl ?_
    refine r_put (ws' := W_Sh (z_g x) a0 o0 (upd (q2.2) 9 ((gSh_ints v1) 9)) (gSh_harm v0) (gLi_fast (gSh_lines v0)) (gLi_place (gSh_lines v0)) (gLi_post (gSh_lines v0)) (gLi_length (gSh_lines v0)) ++ W_Sh (z_g x) a1 o1 (gSh_ints v1) (gSh_harm v1) (gLi_fast (gSh_lines v1)) (gLi_place (gSh_lines v1)) (gLi_post (gSh_lines v1)) (gLi_length (gSh_lines v1))) C eX7_copyFrom_29 PX7_34 0 rfl rfl rfl (Nat.le_of_ble_eq_true rfl) rfl ?_
    refine r_aload_n C eX7_copyFrom_32 0 rfl rfl ?_
    refine r_aload_n C eX7_copyFrom_33 1 rfl rfl ?_
    refine r_get (v := .int ((gSh_ints v1) 10)) C eX7_copyFrom_34 FX7_37 6 rfl rfl ?_
    refine r_put (ws' := W_Sh (z_g x) a0 o0 (upd (upd (q2.2) 9 ((gSh_ints v1) 9)) 10 ((gSh_ints v1) 10)) (gSh_harm v0) (gLi_fast (gSh_lines v0)) (gLi_place (gSh_lines v0)) (gLi_post (gSh_lines v0)) (gLi_length (gSh_lines v0)) ++ W_Sh (z_g x) a1 o1 (gSh_ints v1) (gSh_harm v1) (gLi_fast (gSh_lines v1)) (gLi_place (gSh_lines v1)) (gLi_post (gSh_lines v1)) (gLi_length (gSh_lines v1))) C eX7_copyFrom_37 PX7_37 0 rfl rfl rfl (Nat.le_of_ble_eq_true rfl) rfl ?_
    refine r_aload_n C eX7_copyFrom_40 0 rfl rfl ?_
    refine r_aload_n C eX7_copyFrom_41 1 rfl rfl ?_
    refine r_get (v := .int ((gSh_ints v1) 11)) C eX7_copyFrom_42 FX7_40 6 rfl rfl ?_
    refine r_put (ws' := W_Sh (z_g x) a0 o0 (upd (upd (upd (q2.2) 9 ((gSh_ints v1) 9)) 10 ((gSh_ints v1) 10)) 11 ((gSh_ints v1) 11)) (gSh_harm v0) (gLi_fast (gSh_lines v0)) (gLi_place (gSh_lines v0)) (gLi_post (gSh_lines v0)) (gLi_length (gSh_lines v0)) ++ W_Sh (z_g x) a1 o1 (gSh_ints v1) (gSh_harm v1) (gLi_fast (gSh_lines v1)) (gLi_place (gSh_lines v1)) (gLi_post (gSh_lines v1)) (gLi_length (gSh_lines v1))) C eX7_copyFrom_45 PX7_40 0 rfl rfl rfl (Nat.le_of_ble_eq_true rfl) rfl ?_
    refine r_aload_n C eX7_copyFrom_48 0 rfl rfl ?_
    refine r_aload_n C eX7_copyFrom_49 1 rfl rfl ?_
    refine r_get (v := .int ((gSh_ints v1) 12)) C eX7_copyFrom_50 FX7_54 6 rfl rfl ?_
    refine r_put (ws' := W_Sh (z_g x) a0 o0 (upd (upd (upd (upd (q2.2) 9 ((gSh_ints v1) 9)) 10 ((gSh_ints v1) 10)) 11 ((gSh_ints v1) 11)) 12 ((gSh_ints v1) 12)) (gSh_harm v0) (gLi_fast (gSh_lines v0)) (gLi_place (gSh_lines v0)) (gLi_post (gSh_lines v0)) (gLi_length (gSh_lines v0)) ++ W_Sh (z_g x) a1 o1 (gSh_ints v1) (gSh_harm v1) (gLi_fast (gSh_lines v1)) (gLi_place (gSh_lines v1)) (gLi_post (gSh_lines v1)) (gLi_length (gSh_lines v1))) C eX7_copyFrom_53 PX7_54 0 rfl rfl rfl (Nat.le_of_ble_eq_true rfl) rfl ?_
    refine r_aload_n C eX7_copyFrom_56 0 rfl rfl ?_
    refine r_aload_n C eX7_copyFrom_57 1 rfl rfl ?_
    refine r_get (v := .long (gSh_harm v1)) C eX7_copyFrom_58 FX7_43 6 rfl rfl ?_
    refine r_put (ws' := W_Sh (z_g x) a0 o0 (upd (upd (upd (upd (q2.2) 9 ((gSh_ints v1) 9)) 10 ((gSh_ints v1) 10)) 11 ((gSh_ints v1) 11)) 12 ((gSh_ints v1) 12)) (gSh_harm v1) (gLi_fast (gSh_lines v0)) (gLi_place (gSh_lines v0)) (gLi_post (gSh_lines v0)) (gLi_length (gSh_lines v0)) ++ W_Sh (z_g x) a1 o1 (gSh_ints v1) (gSh_harm v1) (gLi_fast (gSh_lines v1)) (gLi_place (gSh_lines v1)) (gLi_post (gSh_lines v1)) (gLi_length (gSh_lines v1))) C eX7_copyFrom_61 PX7_43 0 rfl rfl rfl (Nat.le_of_ble_eq_true rfl) rfl ?_
    refine r_aload_n C eX7_copyFrom_64 0 rfl rfl ?_
    refine r_get (v := .ref (a0 (o0 + 1))) C eX7_copyFrom_65 FX7_10 0 rfl rfl ?_
    refine r_aload_n C eX7_copyFrom_68 1 rfl rfl ?_
    refine r_get (v := .ref (a1 (o1 + 1))) C eX7_copyFrom_69 FX7_10 6 rfl rfl ?_
    obtain ⟨r9, hr9, hf⟩ := zbind hf
    refine r_V_v (ws' := W_Sh (z_g x) a0 o0 (upd (upd (upd (upd (q2.2) 9 ((gSh_ints v1) 9)) 10 ((gSh_ints v1) 10)) 11 ((gSh_ints v1) 11)) 12 ((gSh_ints v1) 12)) (gSh_harm v1) (r9.1) (r9.2.1) (r9.2.2.1) (r9.2.2.2) ++ W_Sh (z_g x) a1 o1 (gSh_ints v1) (gSh_harm v1) (gLi_fast (gSh_lines v1)) (gLi_place (gSh_lines v1)) (gLi_post (gSh_lines v1)) (gLi_length (gSh_lines v1))) C (c_Li_copyFrom (z_l x) (z_g x) a0 (o0 + 1) (gSh_lines v0) a1 (o1 + 1) (gSh_lines v1)  r9 hr9) eX7_copyFrom_72 MX7_57 ⟨0, 1, _, _, rfl, rfl, rfl⟩ [1, 2, 3, 4, 5, 7, 8, 9, 10, 11] rfl rfl rfl rfl [0, 6] rfl ⟨rfl, rfl, trivial⟩ 12 rfl rfl rfl rfl rfl rfl ?_
    obtain rfl := Option.some.inj (show some (((upd (upd (upd (upd (q2.2) 9 ((gSh_ints v1) 9)) 10 ((gSh_ints v1) 10)) 11 ((gSh_ints v1) 11)) 12 ((gSh_ints v1) 12)), (gSh_harm v1), (r9.1), (r9.2.1), (r9.2.2.1), (r9.2.2.2)) : (Nat → Int32) × Int64 × (Nat → Int32) × (Nat → Int32) × (Nat → Int32) × (Nat → Int32)) = some _ from hf)
    exact hret _ _ _ eX7_copyFrom_75
  have L5 : ∀ (nL5 : Nat) (s1 : Int32 × (Nat → Int32)), lp (fB_Sh_copyFrom_2 v0 v1) nL5 s1 = some q2 → vV x 3 0 0 (W_Sh (z_g x) a0 o0 (s1.2) (gSh_harm v0) (gLi_fast (gSh_lines v0)) (gLi_place (gSh_lines v0)) (gLi_post (gSh_lines v0)) (gLi_length (gSh_lines v0)) ++ W_Sh (z_g x) a1 o1 (gSh_ints v1) (gSh_harm v1) (gLi_fast (gSh_lines v1)) (gLi_place (gSh_lines v1)) (gLi_post (gSh_lines v1)) (gLi_length (gSh_lines v1))) 2 [(0, .ref (a0 o0)), (1, .ref (a1 o1)), (2, .int (s1.1))] [] := by
    intro nL5
    induction nL5 with
    | zero => intro s1 hq; cases hq
    | succ nL5 ihL5 =>
      intro s1 hbL5
      rw [lp_succ, fB_Sh_copyFrom_2] at hbL5
      refine r_iload_n C eX7_copyFrom_2 2 rfl rfl ?_
      refine r_bipush C (v := 9) eX7_copyFrom_3 (by decide) ?_
      refine r_icmp_ge C eX7_copyFrom_5 (fun c6 => ?_) (fun c6 => ?_)
      · rw [if_pos c6] at hbL5
        obtain rfl := Option.some.inj hbL5
        refine r_sub (lv' := [(0, .ref (a0 o0)), (1, .ref (a1 o1))]) [0, 1] rfl ?_
        exact J4
      · rw [if_neg c6] at hbL5
        refine r_aload_n C eX7_copyFrom_8 0 rfl rfl ?_
        refine r_iload_n C eX7_copyFrom_9 2 rfl rfl ?_
        refine r_aload_n C eX7_copyFrom_10 1 rfl rfl ?_
        refine r_iload_n C eX7_copyFrom_11 2 rfl rfl ?_
        obtain ⟨r7, hr7, hbL5⟩ := zbind hbL5
        refine r_V_i (ws' := W_Sh (z_g x) a0 o0 (s1.2) (gSh_harm v0) (gLi_fast (gSh_lines v0)) (gLi_place (gSh_lines v0)) (gLi_post (gSh_lines v0)) (gLi_length (gSh_lines v0)) ++ W_Sh (z_g x) a1 o1 (gSh_ints v1) (gSh_harm v1) (gLi_fast (gSh_lines v1)) (gLi_place (gSh_lines v1)) (gLi_post (gSh_lines v1)) (gLi_length (gSh_lines v1))) C (c_Sh_reading (z_l x) (z_g x) a1 o1 v1 (s1.1) r7 hr7) eX7_copyFrom_12 MX7_50 ⟨0, 7, _, _, rfl, rfl, rfl⟩ [6, 7, 8, 9, 10, 11] rfl rfl rfl rfl [0, 1, 2, 3, 4, 5] rfl ⟨rfl, rfl, rfl, rfl, rfl, rfl, trivial⟩ 12 rfl rfl rfl rfl rfl rfl ?_
        obtain ⟨r8, hr8, hbL5⟩ := zlet_of hbL5
        refine r_V_v (ws' := W_Sh (z_g x) a0 o0 r8 (gSh_harm v0) (gLi_fast (gSh_lines v0)) (gLi_place (gSh_lines v0)) (gLi_post (gSh_lines v0)) (gLi_length (gSh_lines v0)) ++ W_Sh (z_g x) a1 o1 (gSh_ints v1) (gSh_harm v1) (gLi_fast (gSh_lines v1)) (gLi_place (gSh_lines v1)) (gLi_post (gSh_lines v1)) (gLi_length (gSh_lines v1))) C (c_Sh_become (z_l x) (z_g x) a0 o0 ((s1.2), (gSh_harm v0), (gSh_lines v0)) (s1.1) r7 r8 hr8) eX7_copyFrom_15 MX7_23 ⟨0, 7, _, _, rfl, rfl, rfl⟩ [0, 1, 2, 3, 4, 5] rfl rfl rfl rfl [6, 7, 8, 9, 10, 11] rfl ⟨rfl, rfl, rfl, rfl, rfl, rfl, trivial⟩ 12 rfl rfl rfl rfl rfl rfl ?_
        refine r_iinc C (v := ((s1.1) + 1)) [(2, .int ((s1.1) + 1)), (0, .ref (a0 o0)), (1, .ref (a1 o1))] eX7_copyFrom_18 2 rfl rfl (by decide) rfl ?_
        refine r_goto C eX7_copyFrom_21 ?_
        refine r_sub (lv' := [(0, .ref (a0 o0)), (1, .ref (a1 o1)), (2, .int ((s1.1) + 1))]) [1, 2, 0] rfl ?_
        have hc := ihL5 (((s1.1) + 1), r8) hbL5
        exact hc
  refine r_sub (lv' := [(0, .ref (a0 o0)), (1, .ref (a1 o1)), (2, .int 0)]) [1, 2, 0] rfl ?_
  have hc := L5 LF (0, (gSh_ints v0)) h3
  exact hc
