theorem eX4_addPost_0 : zd 1 cX4_addPost 0 1 (.aload_n 0) := ⟨by decide +kernel, rfl⟩
theorem eX4_addPost_1 : zd 3 cX4_addPost 1 4 (.getfield 23) := ⟨by decide +kernel, rfl⟩
theorem eX4_addPost_4 : zdi cX4_addPost 4 7 46 (.ifCond .lt) := ⟨42, by decide +kernel, rfl, by decide⟩
theorem eX4_addPost_7 : zd 1 cX4_addPost 7 8 (.aload_n 0) := ⟨by decide +kernel, rfl⟩
theorem eX4_addPost_8 : zd 3 cX4_addPost 8 11 (.getfield 23) := ⟨by decide +kernel, rfl⟩
theorem eX4_addPost_11 : zd 2 cX4_addPost 11 13 (.bipush 12) := ⟨by decide +kernel, rfl⟩
theorem eX4_addPost_13 : zdi cX4_addPost 13 16 46 (.if_icmp .ge) := ⟨33, by decide +kernel, rfl, by decide⟩
theorem eX4_addPost_16 : zd 1 cX4_addPost 16 17 (.aload_n 0) := ⟨by decide +kernel, rfl⟩
theorem eX4_addPost_17 : zd 3 cX4_addPost 17 20 (.getfield 9) := ⟨by decide +kernel, rfl⟩
theorem eX4_addPost_20 : zd 1 cX4_addPost 20 21 (.aload_n 0) := ⟨by decide +kernel, rfl⟩
theorem eX4_addPost_21 : zd 3 cX4_addPost 21 24 (.getfield 23) := ⟨by decide +kernel, rfl⟩
theorem eX4_addPost_24 : zd 1 cX4_addPost 24 25 (.iload_n 1) := ⟨by decide +kernel, rfl⟩
theorem eX4_addPost_25 : zd 1 cX4_addPost 25 26 (.iastore) := ⟨by decide +kernel, rfl⟩
theorem eX4_addPost_26 : zd 1 cX4_addPost 26 27 (.aload_n 0) := ⟨by decide +kernel, rfl⟩
theorem eX4_addPost_27 : zd 3 cX4_addPost 27 30 (.getfield 13) := ⟨by decide +kernel, rfl⟩
theorem eX4_addPost_30 : zd 1 cX4_addPost 30 31 (.aload_n 0) := ⟨by decide +kernel, rfl⟩
theorem eX4_addPost_31 : zd 3 cX4_addPost 31 34 (.getfield 23) := ⟨by decide +kernel, rfl⟩
theorem eX4_addPost_34 : zd 1 cX4_addPost 34 35 (.iload_n 2) := ⟨by decide +kernel, rfl⟩
theorem eX4_addPost_35 : zd 1 cX4_addPost 35 36 (.iastore) := ⟨by decide +kernel, rfl⟩
theorem eX4_addPost_36 : zd 1 cX4_addPost 36 37 (.aload_n 0) := ⟨by decide +kernel, rfl⟩
theorem eX4_addPost_37 : zd 1 cX4_addPost 37 38 (.dup) := ⟨by decide +kernel, rfl⟩
theorem eX4_addPost_38 : zd 3 cX4_addPost 38 41 (.getfield 23) := ⟨by decide +kernel, rfl⟩
theorem eX4_addPost_41 : zd 1 cX4_addPost 41 42 (.iconst 1) := ⟨by decide +kernel, rfl⟩
theorem eX4_addPost_42 : zd 1 cX4_addPost 42 43 (.iadd) := ⟨by decide +kernel, rfl⟩
theorem eX4_addPost_43 : zd 3 cX4_addPost 43 46 (.putfield 23) := ⟨by decide +kernel, rfl⟩
theorem eX4_addPost_46 : zd 1 cX4_addPost 46 47 (.return_) := ⟨by decide +kernel, rfl⟩
theorem FX4_9 : zlF RX4 9 4 14 := ⟨(RX4, TX4, 16), rfl, by decide, q87, zin4⟩
theorem FX4_13 : zlF RX4 13 4 15 := ⟨(RX4, TX4, 16), rfl, by decide, q88, zin4⟩
theorem FX4_23 : zlF RX4 23 4 13 := ⟨(RX4, TX4, 16), rfl, by decide, q85, zin4⟩
theorem PX4_23 : zlP RX4 23 4 13 .int := ⟨(RX4, TX4, 16), tyX4, rfl, by decide, q85, zin4, tyX4_ok, nmX4, rfl, by decide +kernel⟩
noncomputable def f_Qu_addPost (v0 : tQu) (p1 : Int32) (p2 : Int32) : Option ((Nat → Int32) × (Nat → Int32) × (Nat → Int32)) := (if ((gQu_ints v0) 13) < 0 then (some ((gQu_ints v0), (gQu_places v0), (gQu_strengths v0))) else (if 12 ≤ ((gQu_ints v0) 13) then (some ((gQu_ints v0), (gQu_places v0), (gQu_strengths v0))) else (if inb ((gQu_ints v0) 13) 12 = true then (if inb ((gQu_ints v0) 13) 12 = true then (zlet (((gQu_ints v0) 13) + 1) (fun (z5 : Int32) => (some ((upd (gQu_ints v0) 13 z5), (upd (gQu_places v0) (ix ((gQu_ints v0) 13)) p1), (upd (gQu_strengths v0) (ix ((gQu_ints v0) 13)) p2))))) else none) else none)))
abbrev rm_Qu_addPost : Room := { frames := 0, cells := 0, slots := 0, locals := 0 }
set_option maxHeartbeats 4000000 in
set_option maxRecDepth 100000 in
theorem c_Qu_addPost (l : Launch) (g : zGl) (a0 : Nat → Nat) (o0 : Nat) (v0 : tQu) (p1 : Int32) (p2 : Int32) (out : (Nat → Int32) × (Nat → Int32) × (Nat → Int32)) (hf : f_Qu_addPost v0 p1 p2 = some out) : zMv l yX4_addPost cX4_addPost 3 rm_Qu_addPost g [.ref (a0 o0), .int p1, .int p2] (W_Qu g a0 o0 (gQu_ints v0) (gQu_places v0) (gQu_strengths v0))  (W_Qu g a0 o0 (out.1) (out.2.1) (out.2.2)) := by
  refine zMv_of (lv := [(0, .ref (a0 o0)), (1, .int p1), (2, .int p2)]) (by decide) (Nat.le_of_ble_eq_true rfl) rfl (fun x hl hg C hret => ?_)
  subst hl; subst hg
  rw [f_Qu_addPost] at hf
  refine r_aload_n C eX4_addPost_0 0 rfl rfl ?_
  refine r_get (v := .int ((gQu_ints v0) 13)) C eX4_addPost_1 FX4_23 0 rfl rfl ?_
  refine r_if_lt C eX4_addPost_4 (fun c1 => ?_) (fun c1 => ?_)
  · rw [if_pos c1] at hf
    obtain rfl := Option.some.inj (show some (((gQu_ints v0), (gQu_places v0), (gQu_strengths v0)) : (Nat → Int32) × (Nat → Int32) × (Nat → Int32)) = some _ from hf)
    exact hret _ _ _ eX4_addPost_46
  · rw [if_neg c1] at hf
    refine r_aload_n C eX4_addPost_7 0 rfl rfl ?_
    refine r_get (v := .int ((gQu_ints v0) 13)) C eX4_addPost_8 FX4_23 0 rfl rfl ?_
    refine r_bipush C (v := 12) eX4_addPost_11 (by decide) ?_
    refine r_icmp_ge C eX4_addPost_13 (fun c2 => ?_) (fun c2 => ?_)
    · rw [if_pos c2] at hf
      obtain rfl := Option.some.inj (show some (((gQu_ints v0), (gQu_places v0), (gQu_strengths v0)) : (Nat → Int32) × (Nat → Int32) × (Nat → Int32)) = some _ from hf)
      exact hret _ _ _ eX4_addPost_46
    · rw [if_neg c2] at hf
      refine r_aload_n C eX4_addPost_16 0 rfl rfl ?_
      refine r_get (v := .ref (a0 (o0 + 1))) C eX4_addPost_17 FX4_9 0 rfl rfl ?_
      refine r_aload_n C eX4_addPost_20 0 rfl rfl ?_
      refine r_get (v := .int ((gQu_ints v0) 13)) C eX4_addPost_21 FX4_23 0 rfl rfl ?_
      refine r_iload_n C eX4_addPost_24 1 rfl rfl ?_
      obtain ⟨hb3, hf⟩ := zchk hf
      refine r_iast (ws' := W_Qu (z_g x) a0 o0 (gQu_ints v0) (upd (gQu_places v0) (ix ((gQu_ints v0) 13)) p1) (gQu_strengths v0)) C eX4_addPost_25 1 rfl (inb_in hb3) rfl ?_
      refine r_aload_n C eX4_addPost_26 0 rfl rfl ?_
      refine r_get (v := .ref (a0 (o0 + 2))) C eX4_addPost_27 FX4_13 0 rfl rfl ?_
      refine r_aload_n C eX4_addPost_30 0 rfl rfl ?_
      refine r_get (v := .int ((gQu_ints v0) 13)) C eX4_addPost_31 FX4_23 0 rfl rfl ?_
      refine r_iload_n C eX4_addPost_34 2 rfl rfl ?_
      obtain ⟨hb4, hf⟩ := zchk hf
      refine r_iast (ws' := W_Qu (z_g x) a0 o0 (gQu_ints v0) (upd (gQu_places v0) (ix ((gQu_ints v0) 13)) p1) (upd (gQu_strengths v0) (ix ((gQu_ints v0) 13)) p2)) C eX4_addPost_35 2 rfl (inb_in hb4) rfl ?_
      refine r_aload_n C eX4_addPost_36 0 rfl rfl ?_
      refine r_dup C eX4_addPost_37 rfl ?_
      refine r_get (v := .int ((gQu_ints v0) 13)) C eX4_addPost_38 FX4_23 0 rfl rfl ?_
      refine r_iconst C (v := 1) eX4_addPost_41 (by decide) ?_
      refine r_iadd C eX4_addPost_42 ?_
      obtain ⟨z5, hz5, hf⟩ := zlet_of hf
      refine r_nami hz5 ?_
      refine r_put (ws' := W_Qu (z_g x) a0 o0 (upd (gQu_ints v0) 13 z5) (upd (gQu_places v0) (ix ((gQu_ints v0) 13)) p1) (upd (gQu_strengths v0) (ix ((gQu_ints v0) 13)) p2)) C eX4_addPost_43 PX4_23 0 rfl rfl rfl (Nat.le_of_ble_eq_true rfl) rfl ?_
      obtain rfl := Option.some.inj (show some (((upd (gQu_ints v0) 13 z5), (upd (gQu_places v0) (ix ((gQu_ints v0) 13)) p1), (upd (gQu_strengths v0) (ix ((gQu_ints v0) 13)) p2)) : (Nat → Int32) × (Nat → Int32) × (Nat → Int32)) = some _ from hf)
      exact hret _ _ _ eX4_addPost_46
theorem eX4_arm_0 : zd 1 cX4_arm 0 1 (.aload_n 0) := ⟨by decide +kernel, rfl⟩
theorem eX4_arm_1 : zd 3 cX4_arm 1 4 (.getfield 43) := ⟨by decide +kernel, rfl⟩
theorem eX4_arm_4 : zd 1 cX4_arm 4 5 (.iconst 2) := ⟨by decide +kernel, rfl⟩
theorem eX4_arm_5 : zd 1 cX4_arm 5 6 (.idiv) := ⟨by decide +kernel, rfl⟩
theorem eX4_arm_6 : zd 1 cX4_arm 6 7 (.iload_n 1) := ⟨by decide +kernel, rfl⟩
theorem eX4_arm_7 : zd 1 cX4_arm 7 8 (.imul) := ⟨by decide +kernel, rfl⟩
theorem eX4_arm_8 : zd 2 cX4_arm 8 10 (.bipush 100) := ⟨by decide +kernel, rfl⟩
theorem eX4_arm_10 : zd 1 cX4_arm 10 11 (.idiv) := ⟨by decide +kernel, rfl⟩
theorem eX4_arm_11 : zd 1 cX4_arm 11 12 (.ireturn) := ⟨by decide +kernel, rfl⟩
theorem FX4_43 : zlF RX4 43 4 2 := ⟨(RX4, TX4, 16), rfl, by decide, q61, zin4⟩
noncomputable def f_Qu_arm (v0 : tQu) (p1 : Int32) : Int32 := (((((gQu_ints v0) 2) / 2) * p1) / 100)
abbrev rm_Qu_arm : Room := { frames := 0, cells := 0, slots := 0, locals := 0 }
set_option maxHeartbeats 4000000 in
set_option maxRecDepth 100000 in
theorem c_Qu_arm (l : Launch) (g : zGl) (a0 : Nat → Nat) (o0 : Nat) (v0 : tQu) (p1 : Int32) (out : Int32) (hf : f_Qu_arm v0 p1 = out) : zMi l yX4_arm cX4_arm 2 rm_Qu_arm g [.ref (a0 o0), .int p1] (W_Qu g a0 o0 (gQu_ints v0) (gQu_places v0) (gQu_strengths v0)) out (W_Qu g a0 o0 (gQu_ints v0) (gQu_places v0) (gQu_strengths v0)) := by
  refine zMi_of (lv := [(0, .ref (a0 o0)), (1, .int p1)]) (by decide) (Nat.le_of_ble_eq_true rfl) rfl (fun x hl hg C hret => ?_)
  subst hl; subst hg
  rw [f_Qu_arm] at hf
  refine r_aload_n C eX4_arm_0 0 rfl rfl ?_
  refine r_get (v := .int ((gQu_ints v0) 2)) C eX4_arm_1 FX4_43 0 rfl rfl ?_
  refine r_iconst C (v := 2) eX4_arm_4 (by decide) ?_
  refine r_idiv C eX4_arm_5 (by decide) ?_
  refine r_iload_n C eX4_arm_6 1 rfl rfl ?_
  refine r_imul C eX4_arm_7 ?_
  refine r_bipush C (v := 100) eX4_arm_8 (by decide) ?_
  refine r_idiv C eX4_arm_10 (by decide) ?_
  subst hf
  exact hret _ _ _ eX4_arm_11
theorem eX4_become_0 : zd 1 cX4_become 0 1 (.iload_n 1) := ⟨by decide +kernel, rfl⟩
theorem eX4_become_1 : decode cX4_become 1 = .ok (.tableswitch 159 0 11 #[63, 71, 79, 87, 95, 103, 111, 119, 127, 135, 143, 151], 63) := by decide +kernel
theorem eX4_become_64 : zd 1 cX4_become 64 65 (.aload_n 0) := ⟨by decide +kernel, rfl⟩
theorem eX4_become_65 : zd 1 cX4_become 65 66 (.iload_n 2) := ⟨by decide +kernel, rfl⟩
theorem eX4_become_66 : zd 3 cX4_become 66 69 (.putfield 37) := ⟨by decide +kernel, rfl⟩
theorem eX4_become_69 : zdi cX4_become 69 72 165 (.goto) := ⟨96, by decide +kernel, rfl, by decide⟩
theorem eX4_become_72 : zd 1 cX4_become 72 73 (.aload_n 0) := ⟨by decide +kernel, rfl⟩
theorem eX4_become_73 : zd 1 cX4_become 73 74 (.iload_n 2) := ⟨by decide +kernel, rfl⟩
theorem eX4_become_74 : zd 3 cX4_become 74 77 (.putfield 40) := ⟨by decide +kernel, rfl⟩
theorem eX4_become_77 : zdi cX4_become 77 80 165 (.goto) := ⟨88, by decide +kernel, rfl, by decide⟩
theorem eX4_become_80 : zd 1 cX4_become 80 81 (.aload_n 0) := ⟨by decide +kernel, rfl⟩
theorem eX4_become_81 : zd 1 cX4_become 81 82 (.iload_n 2) := ⟨by decide +kernel, rfl⟩
theorem eX4_become_82 : zd 3 cX4_become 82 85 (.putfield 43) := ⟨by decide +kernel, rfl⟩
theorem eX4_become_85 : zdi cX4_become 85 88 165 (.goto) := ⟨80, by decide +kernel, rfl, by decide⟩
theorem eX4_become_88 : zd 1 cX4_become 88 89 (.aload_n 0) := ⟨by decide +kernel, rfl⟩
theorem eX4_become_89 : zd 1 cX4_become 89 90 (.iload_n 2) := ⟨by decide +kernel, rfl⟩
theorem eX4_become_90 : zd 3 cX4_become 90 93 (.putfield 46) := ⟨by decide +kernel, rfl⟩
theorem eX4_become_93 : zdi cX4_become 93 96 165 (.goto) := ⟨72, by decide +kernel, rfl, by decide⟩
theorem eX4_become_96 : zd 1 cX4_become 96 97 (.aload_n 0) := ⟨by decide +kernel, rfl⟩
theorem eX4_become_97 : zd 1 cX4_become 97 98 (.iload_n 2) := ⟨by decide +kernel, rfl⟩
theorem eX4_become_98 : zd 3 cX4_become 98 101 (.putfield 49) := ⟨by decide +kernel, rfl⟩
theorem eX4_become_101 : zdi cX4_become 101 104 165 (.goto) := ⟨64, by decide +kernel, rfl, by decide⟩
theorem eX4_become_104 : zd 1 cX4_become 104 105 (.aload_n 0) := ⟨by decide +kernel, rfl⟩
theorem eX4_become_105 : zd 1 cX4_become 105 106 (.iload_n 2) := ⟨by decide +kernel, rfl⟩
theorem eX4_become_106 : zd 3 cX4_become 106 109 (.putfield 52) := ⟨by decide +kernel, rfl⟩
theorem eX4_become_109 : zdi cX4_become 109 112 165 (.goto) := ⟨56, by decide +kernel, rfl, by decide⟩
theorem eX4_become_112 : zd 1 cX4_become 112 113 (.aload_n 0) := ⟨by decide +kernel, rfl⟩
theorem eX4_become_113 : zd 1 cX4_become 113 114 (.iload_n 2) := ⟨by decide +kernel, rfl⟩
theorem eX4_become_114 : zd 3 cX4_become 114 117 (.putfield 55) := ⟨by decide +kernel, rfl⟩
theorem eX4_become_117 : zdi cX4_become 117 120 165 (.goto) := ⟨48, by decide +kernel, rfl, by decide⟩
theorem eX4_become_120 : zd 1 cX4_become 120 121 (.aload_n 0) := ⟨by decide +kernel, rfl⟩
theorem eX4_become_121 : zd 1 cX4_become 121 122 (.iload_n 2) := ⟨by decide +kernel, rfl⟩
theorem eX4_become_122 : zd 3 cX4_become 122 125 (.putfield 58) := ⟨by decide +kernel, rfl⟩
theorem eX4_become_125 : zdi cX4_become 125 128 165 (.goto) := ⟨40, by decide +kernel, rfl, by decide⟩
theorem eX4_become_128 : zd 1 cX4_become 128 129 (.aload_n 0) := ⟨by decide +kernel, rfl⟩
theorem eX4_become_129 : zd 1 cX4_become 129 130 (.iload_n 2) := ⟨by decide +kernel, rfl⟩
theorem eX4_become_130 : zd 3 cX4_become 130 133 (.putfield 61) := ⟨by decide +kernel, rfl⟩
theorem eX4_become_133 : zdi cX4_become 133 136 165 (.goto) := ⟨32, by decide +kernel, rfl, by decide⟩
theorem eX4_become_136 : zd 1 cX4_become 136 137 (.aload_n 0) := ⟨by decide +kernel, rfl⟩
theorem eX4_become_137 : zd 1 cX4_become 137 138 (.iload_n 2) := ⟨by decide +kernel, rfl⟩
theorem eX4_become_138 : zd 3 cX4_become 138 141 (.putfield 64) := ⟨by decide +kernel, rfl⟩
theorem eX4_become_141 : zdi cX4_become 141 144 165 (.goto) := ⟨24, by decide +kernel, rfl, by decide⟩
theorem eX4_become_144 : zd 1 cX4_become 144 145 (.aload_n 0) := ⟨by decide +kernel, rfl⟩
theorem eX4_become_145 : zd 1 cX4_become 145 146 (.iload_n 2) := ⟨by decide +kernel, rfl⟩
theorem eX4_become_146 : zd 3 cX4_become 146 149 (.putfield 67) := ⟨by decide +kernel, rfl⟩
theorem eX4_become_149 : zdi cX4_become 149 152 165 (.goto) := ⟨16, by decide +kernel, rfl, by decide⟩
theorem eX4_become_152 : zd 1 cX4_become 152 153 (.aload_n 0) := ⟨by decide +kernel, rfl⟩
theorem eX4_become_153 : zd 1 cX4_become 153 154 (.iload_n 2) := ⟨by decide +kernel, rfl⟩
theorem eX4_become_154 : zd 3 cX4_become 154 157 (.putfield 70) := ⟨by decide +kernel, rfl⟩
theorem eX4_become_157 : zdi cX4_become 157 160 165 (.goto) := ⟨8, by decide +kernel, rfl, by decide⟩
theorem eX4_become_160 : zd 1 cX4_become 160 161 (.aload_n 0) := ⟨by decide +kernel, rfl⟩
theorem eX4_become_161 : zd 1 cX4_become 161 162 (.iload_n 2) := ⟨by decide +kernel, rfl⟩
theorem eX4_become_162 : zd 3 cX4_become 162 165 (.putfield 73) := ⟨by decide +kernel, rfl⟩
theorem eX4_become_165 : zd 1 cX4_become 165 166 (.return_) := ⟨by decide +kernel, rfl⟩
theorem PX4_37 : zlP RX4 37 4 0 .int := ⟨(RX4, TX4, 16), tyX4, rfl, by decide, q55, zin4, tyX4_ok, nmX4, rfl, by decide +kernel⟩
theorem PX4_40 : zlP RX4 40 4 1 .int := ⟨(RX4, TX4, 16), tyX4, rfl, by decide, q58, zin4, tyX4_ok, nmX4, rfl, by decide +kernel⟩
theorem PX4_43 : zlP RX4 43 4 2 .int := ⟨(RX4, TX4, 16), tyX4, rfl, by decide, q61, zin4, tyX4_ok, nmX4, rfl, by decide +kernel⟩
theorem PX4_46 : zlP RX4 46 4 3 .int := ⟨(RX4, TX4, 16), tyX4, rfl, by decide, q63, zin4, tyX4_ok, nmX4, rfl, by decide +kernel⟩
theorem PX4_49 : zlP RX4 49 4 4 .int := ⟨(RX4, TX4, 16), tyX4, rfl, by decide, q65, zin4, tyX4_ok, nmX4, rfl, by decide +kernel⟩
theorem PX4_52 : zlP RX4 52 4 5 .int := ⟨(RX4, TX4, 16), tyX4, rfl, by decide, q67, zin4, tyX4_ok, nmX4, rfl, by decide +kernel⟩
theorem PX4_55 : zlP RX4 55 4 6 .int := ⟨(RX4, TX4, 16), tyX4, rfl, by decide, q69, zin4, tyX4_ok, nmX4, rfl, by decide +kernel⟩
theorem PX4_58 : zlP RX4 58 4 7 .int := ⟨(RX4, TX4, 16), tyX4, rfl, by decide, q71, zin4, tyX4_ok, nmX4, rfl, by decide +kernel⟩
theorem PX4_61 : zlP RX4 61 4 8 .int := ⟨(RX4, TX4, 16), tyX4, rfl, by decide, q73, zin4, tyX4_ok, nmX4, rfl, by decide +kernel⟩
theorem PX4_64 : zlP RX4 64 4 9 .int := ⟨(RX4, TX4, 16), tyX4, rfl, by decide, q75, zin4, tyX4_ok, nmX4, rfl, by decide +kernel⟩
theorem PX4_67 : zlP RX4 67 4 10 .int := ⟨(RX4, TX4, 16), tyX4, rfl, by decide, q78, zin4, tyX4_ok, nmX4, rfl, by decide +kernel⟩
theorem PX4_70 : zlP RX4 70 4 11 .int := ⟨(RX4, TX4, 16), tyX4, rfl, by decide, q81, zin4, tyX4_ok, nmX4, rfl, by decide +kernel⟩
theorem PX4_73 : zlP RX4 73 4 12 .int := ⟨(RX4, TX4, 16), tyX4, rfl, by decide, q83, zin4, tyX4_ok, nmX4, rfl, by decide +kernel⟩
noncomputable def f_Qu_become (v0 : tQu) (p1 : Int32) (p2 : Int32) : (Nat → Int32) := (if p1 = 0 then (upd (gQu_ints v0) 0 p2) else (if p1 = 1 then (upd (gQu_ints v0) 1 p2) else (if p1 = 2 then (upd (gQu_ints v0) 2 p2) else (if p1 = 3 then (upd (gQu_ints v0) 3 p2) else (if p1 = 4 then (upd (gQu_ints v0) 4 p2) else (if p1 = 5 then (upd (gQu_ints v0) 5 p2) else (if p1 = 6 then (upd (gQu_ints v0) 6 p2) else (if p1 = 7 then (upd (gQu_ints v0) 7 p2) else (if p1 = 8 then (upd (gQu_ints v0) 8 p2) else (if p1 = 9 then (upd (gQu_ints v0) 9 p2) else (if p1 = 10 then (upd (gQu_ints v0) 10 p2) else (if p1 = 11 then (upd (gQu_ints v0) 11 p2) else (upd (gQu_ints v0) 12 p2)))))))))))))
abbrev rm_Qu_become : Room := { frames := 0, cells := 0, slots := 0, locals := 0 }
set_option maxHeartbeats 4000000 in
set_option maxRecDepth 100000 in
theorem c_Qu_become (l : Launch) (g : zGl) (a0 : Nat → Nat) (o0 : Nat) (v0 : tQu) (p1 : Int32) (p2 : Int32) (out : (Nat → Int32)) (hf : f_Qu_become v0 p1 p2 = out) : zMv l yX4_become cX4_become 3 rm_Qu_become g [.ref (a0 o0), .int p1, .int p2] (W_Qu g a0 o0 (gQu_ints v0) (gQu_places v0) (gQu_strengths v0))  (W_Qu g a0 o0 out (gQu_places v0) (gQu_strengths v0)) := by
  refine zMv_of (lv := [(0, .ref (a0 o0)), (1, .int p1), (2, .int p2)]) (by decide) (Nat.le_of_ble_eq_true rfl) rfl (fun x hl hg C hret => ?_)
  subst hl; subst hg
  rw [f_Qu_become] at hf
  refine r_iload_n C eX4_become_0 1 rfl rfl ?_
  by_cases c1 : p1 = 0
  · rw [if_pos c1] at hf
    refine r_tabIn C (v := 0) eX4_become_1 c1 63 64 ⟨by decide, rfl, by decide⟩ ?_
    refine r_aload_n C eX4_become_64 0 rfl rfl ?_
    refine r_iload_n C eX4_become_65 2 rfl rfl ?_
    refine r_put (ws' := W_Qu (z_g x) a0 o0 (upd (gQu_ints v0) 0 p2) (gQu_places v0) (gQu_strengths v0)) C eX4_become_66 PX4_37 0 rfl rfl rfl (Nat.le_of_ble_eq_true rfl) rfl ?_
    refine r_goto C eX4_become_69 ?_
    subst hf
    exact hret _ _ _ eX4_become_165
  rw [if_neg c1] at hf
  by_cases c2 : p1 = 1
  · rw [if_pos c2] at hf
    refine r_tabIn C (v := 1) eX4_become_1 c2 71 72 ⟨by decide, rfl, by decide⟩ ?_
    refine r_aload_n C eX4_become_72 0 rfl rfl ?_
    refine r_iload_n C eX4_become_73 2 rfl rfl ?_
    refine r_put (ws' := W_Qu (z_g x) a0 o0 (upd (gQu_ints v0) 1 p2) (gQu_places v0) (gQu_strengths v0)) C eX4_become_74 PX4_40 0 rfl rfl rfl (Nat.le_of_ble_eq_true rfl) rfl ?_
    refine r_goto C eX4_become_77 ?_
    subst hf
    exact hret _ _ _ eX4_become_165
  rw [if_neg c2] at hf
  by_cases c3 : p1 = 2
  · rw [if_pos c3] at hf
    refine r_tabIn C (v := 2) eX4_become_1 c3 79 80 ⟨by decide, rfl, by decide⟩ ?_
    refine r_aload_n C eX4_become_80 0 rfl rfl ?_
    refine r_iload_n C eX4_become_81 2 rfl rfl ?_
    refine r_put (ws' := W_Qu (z_g x) a0 o0 (upd (gQu_ints v0) 2 p2) (gQu_places v0) (gQu_strengths v0)) C eX4_become_82 PX4_43 0 rfl rfl rfl (Nat.le_of_ble_eq_true rfl) rfl ?_
    refine r_goto C eX4_become_85 ?_
    subst hf
    exact hret _ _ _ eX4_become_165
  rw [if_neg c3] at hf
  by_cases c4 : p1 = 3
  · rw [if_pos c4] at hf
    refine r_tabIn C (v := 3) eX4_become_1 c4 87 88 ⟨by decide, rfl, by decide⟩ ?_
    refine r_aload_n C eX4_become_88 0 rfl rfl ?_
    refine r_iload_n C eX4_become_89 2 rfl rfl ?_
    refine r_put (ws' := W_Qu (z_g x) a0 o0 (upd (gQu_ints v0) 3 p2) (gQu_places v0) (gQu_strengths v0)) C eX4_become_90 PX4_46 0 rfl rfl rfl (Nat.le_of_ble_eq_true rfl) rfl ?_
    refine r_goto C eX4_become_93 ?_
    subst hf
    exact hret _ _ _ eX4_become_165
  rw [if_neg c4] at hf
  by_cases c5 : p1 = 4
  · rw [if_pos c5] at hf
    refine r_tabIn C (v := 4) eX4_become_1 c5 95 96 ⟨by decide, rfl, by decide⟩ ?_
    refine r_aload_n C eX4_become_96 0 rfl rfl ?_
    refine r_iload_n C eX4_become_97 2 rfl rfl ?_
    refine r_put (ws' := W_Qu (z_g x) a0 o0 (upd (gQu_ints v0) 4 p2) (gQu_places v0) (gQu_strengths v0)) C eX4_become_98 PX4_49 0 rfl rfl rfl (Nat.le_of_ble_eq_true rfl) rfl ?_
    refine r_goto C eX4_become_101 ?_
    subst hf
    exact hret _ _ _ eX4_become_165
  rw [if_neg c5] at hf
  by_cases c6 : p1 = 5
  · rw [if_pos c6] at hf
    refine r_tabIn C (v := 5) eX4_become_1 c6 103 104 ⟨by decide, rfl, by decide⟩ ?_
    refine r_aload_n C eX4_become_104 0 rfl rfl ?_
    refine r_iload_n C eX4_become_105 2 rfl rfl ?_
    refine r_put (ws' := W_Qu (z_g x) a0 o0 (upd (gQu_ints v0) 5 p2) (gQu_places v0) (gQu_strengths v0)) C eX4_become_106 PX4_52 0 rfl rfl rfl (Nat.le_of_ble_eq_true rfl) rfl ?_
    refine r_goto C eX4_become_109 ?_
    subst hf
    exact hret _ _ _ eX4_become_165
  rw [if_neg c6] at hf
  by_cases c7 : p1 = 6
  · rw [if_pos c7] at hf
    refine r_tabIn C (v := 6) eX4_become_1 c7 111 112 ⟨by decide, rfl, by decide⟩ ?_
    refine r_aload_n C eX4_become_112 0 rfl rfl ?_
    refine r_iload_n C eX4_become_113 2 rfl rfl ?_
    refine r_put (ws' := W_Qu (z_g x) a0 o0 (upd (gQu_ints v0) 6 p2) (gQu_places v0) (gQu_strengths v0)) C eX4_become_114 PX4_55 0 rfl rfl rfl (Nat.le_of_ble_eq_true rfl) rfl ?_
    refine r_goto C eX4_become_117 ?_
    subst hf
    exact hret _ _ _ eX4_become_165
  rw [if_neg c7] at hf
  by_cases c8 : p1 = 7
  · rw [if_pos c8] at hf
    refine r_tabIn C (v := 7) eX4_become_1 c8 119 120 ⟨by decide, rfl, by decide⟩ ?_
    refine r_aload_n C eX4_become_120 0 rfl rfl ?_
    refine r_iload_n C eX4_become_121 2 rfl rfl ?_
    refine r_put (ws' := W_Qu (z_g x) a0 o0 (upd (gQu_ints v0) 7 p2) (gQu_places v0) (gQu_strengths v0)) C eX4_become_122 PX4_58 0 rfl rfl rfl (Nat.le_of_ble_eq_true rfl) rfl ?_
    refine r_goto C eX4_become_125 ?_
    subst hf
    exact hret _ _ _ eX4_become_165
  rw [if_neg c8] at hf
  by_cases c9 : p1 = 8
  · rw [if_pos c9] at hf
    refine r_tabIn C (v := 8) eX4_become_1 c9 127 128 ⟨by decide, rfl, by decide⟩ ?_
    refine r_aload_n C eX4_become_128 0 rfl rfl ?_
    refine r_iload_n C eX4_become_129 2 rfl rfl ?_
    refine r_put (ws' := W_Qu (z_g x) a0 o0 (upd (gQu_ints v0) 8 p2) (gQu_places v0) (gQu_strengths v0)) C eX4_become_130 PX4_61 0 rfl rfl rfl (Nat.le_of_ble_eq_true rfl) rfl ?_
    refine r_goto C eX4_become_133 ?_
    subst hf
    exact hret _ _ _ eX4_become_165
  rw [if_neg c9] at hf
  by_cases c10 : p1 = 9
  · rw [if_pos c10] at hf
    refine r_tabIn C (v := 9) eX4_become_1 c10 135 136 ⟨by decide, rfl, by decide⟩ ?_
    refine r_aload_n C eX4_become_136 0 rfl rfl ?_
    refine r_iload_n C eX4_become_137 2 rfl rfl ?_
    refine r_put (ws' := W_Qu (z_g x) a0 o0 (upd (gQu_ints v0) 9 p2) (gQu_places v0) (gQu_strengths v0)) C eX4_become_138 PX4_64 0 rfl rfl rfl (Nat.le_of_ble_eq_true rfl) rfl ?_
    refine r_goto C eX4_become_141 ?_
    subst hf
    exact hret _ _ _ eX4_become_165
  rw [if_neg c10] at hf
  by_cases c11 : p1 = 10
  · rw [if_pos c11] at hf
    refine r_tabIn C (v := 10) eX4_become_1 c11 143 144 ⟨by decide, rfl, by decide⟩ ?_
    refine r_aload_n C eX4_become_144 0 rfl rfl ?_
    refine r_iload_n C eX4_become_145 2 rfl rfl ?_
    refine r_put (ws' := W_Qu (z_g x) a0 o0 (upd (gQu_ints v0) 10 p2) (gQu_places v0) (gQu_strengths v0)) C eX4_become_146 PX4_67 0 rfl rfl rfl (Nat.le_of_ble_eq_true rfl) rfl ?_
    refine r_goto C eX4_become_149 ?_
    subst hf
    exact hret _ _ _ eX4_become_165
  rw [if_neg c11] at hf
  by_cases c12 : p1 = 11
  · rw [if_pos c12] at hf
    refine r_tabIn C (v := 11) eX4_become_1 c12 151 152 ⟨by decide, rfl, by decide⟩ ?_
    refine r_aload_n C eX4_become_152 0 rfl rfl ?_
    refine r_iload_n C eX4_become_153 2 rfl rfl ?_
    refine r_put (ws' := W_Qu (z_g x) a0 o0 (upd (gQu_ints v0) 11 p2) (gQu_places v0) (gQu_strengths v0)) C eX4_become_154 PX4_70 0 rfl rfl rfl (Nat.le_of_ble_eq_true rfl) rfl ?_
    refine r_goto C eX4_become_157 ?_
    subst hf
    exact hret _ _ _ eX4_become_165
  rw [if_neg c12] at hf
  refine r_tabOut C eX4_become_1 (fun i h1 h2 => by rcases (show i = 0 ∨ i = 1 ∨ i = 2 ∨ i = 3 ∨ i = 4 ∨ i = 5 ∨ i = 6 ∨ i = 7 ∨ i = 8 ∨ i = 9 ∨ i = 10 ∨ i = 11 by omega) with rfl | rfl | rfl | rfl | rfl | rfl | rfl | rfl | rfl | rfl | rfl | rfl <;> assumption) 160 (by decide) ?_
  refine r_aload_n C eX4_become_160 0 rfl rfl ?_
  refine r_iload_n C eX4_become_161 2 rfl rfl ?_
  refine r_put (ws' := W_Qu (z_g x) a0 o0 (upd (gQu_ints v0) 12 p2) (gQu_places v0) (gQu_strengths v0)) C eX4_become_162 PX4_73 0 rfl rfl rfl (Nat.le_of_ble_eq_true rfl) rfl ?_
  subst hf
  exact hret _ _ _ eX4_become_165
theorem eX4_becomeUntold_0 : zd 1 cX4_becomeUntold 0 1 (.iconst 0) := ⟨by decide +kernel, rfl⟩
theorem eX4_becomeUntold_1 : zd 1 cX4_becomeUntold 1 2 (.istore_n 1) := ⟨by decide +kernel, rfl⟩
theorem eX4_becomeUntold_2 : zd 1 cX4_becomeUntold 2 3 (.iload_n 1) := ⟨by decide +kernel, rfl⟩
theorem eX4_becomeUntold_3 : zd 2 cX4_becomeUntold 3 5 (.bipush 13) := ⟨by decide +kernel, rfl⟩
theorem eX4_becomeUntold_5 : zdi cX4_becomeUntold 5 8 24 (.if_icmp .ge) := ⟨19, by decide +kernel, rfl, by decide⟩
theorem eX4_becomeUntold_8 : zd 1 cX4_becomeUntold 8 9 (.aload_n 0) := ⟨by decide +kernel, rfl⟩
theorem eX4_becomeUntold_9 : zd 1 cX4_becomeUntold 9 10 (.iload_n 1) := ⟨by decide +kernel, rfl⟩
theorem eX4_becomeUntold_10 : zd 3 cX4_becomeUntold 10 13 (.getstatic 16) := ⟨by decide +kernel, rfl⟩
theorem eX4_becomeUntold_13 : zd 1 cX4_becomeUntold 13 14 (.iload_n 1) := ⟨by decide +kernel, rfl⟩
theorem eX4_becomeUntold_14 : zd 1 cX4_becomeUntold 14 15 (.iaload) := ⟨by decide +kernel, rfl⟩
theorem eX4_becomeUntold_15 : zd 3 cX4_becomeUntold 15 18 (.invokevirtual 19) := ⟨by decide +kernel, rfl⟩
theorem eX4_becomeUntold_18 : zd 3 cX4_becomeUntold 18 21 (.iinc 1 1) := ⟨by decide +kernel, rfl⟩
theorem eX4_becomeUntold_21 : zdi cX4_becomeUntold 21 24 2 (.goto) := ⟨(-19), by decide +kernel, rfl, by decide⟩
theorem eX4_becomeUntold_24 : zd 1 cX4_becomeUntold 24 25 (.aload_n 0) := ⟨by decide +kernel, rfl⟩
theorem eX4_becomeUntold_25 : zd 1 cX4_becomeUntold 25 26 (.iconst 0) := ⟨by decide +kernel, rfl⟩
theorem eX4_becomeUntold_26 : zd 3 cX4_becomeUntold 26 29 (.putfield 23) := ⟨by decide +kernel, rfl⟩
theorem eX4_becomeUntold_29 : zd 1 cX4_becomeUntold 29 30 (.return_) := ⟨by decide +kernel, rfl⟩
theorem MX4_19 : zlV RX4 19 yX4_become cX4_become 3 (none) 2 := ⟨q358, q359, q360, q4, q361, by decide, by decide, by decide +kernel⟩
noncomputable def fB_Qu_becomeUntold_2 (v0 : tQu) (ih : (Int32 × (Nat → Int32)) → Option (Int32 × (Nat → Int32))) (s1 : Int32 × (Nat → Int32)) : Option (Int32 × (Nat → Int32)) := (if 13 ≤ (s1.1) then (some ((s1.1), (s1.2))) else (if inb (s1.1) 13 = true then (zlet (f_Qu_become ((s1.2), (gQu_places v0), (gQu_strengths v0)) (s1.1) (zT_UNTOLD.getD (ix (s1.1)) 0)) (fun (r10 : (Nat → Int32)) => (ih (((s1.1) + 1), r10)))) else none))
noncomputable def f_Qu_becomeUntold (v0 : tQu)  : Option ((Nat → Int32)) := (Option.bind (lp (fB_Qu_becomeUntold_2 v0) LF (0, (gQu_ints v0))) (fun (q2 : Int32 × (Nat → Int32)) => (some (upd (q2.2) 13 0))))
abbrev rm_Qu_becomeUntold : Room := { frames := 1, cells := 0, slots := 0, locals := 22 }
set_option maxHeartbeats 4000000 in
set_option maxRecDepth 100000 in
theorem c_Qu_becomeUntold (l : Launch) (g : zGl) (a0 : Nat → Nat) (o0 : Nat) (v0 : tQu)  (out : (Nat → Int32)) (hf : f_Qu_becomeUntold v0 = some out) : zMv l yX4_becomeUntold cX4_becomeUntold 2 rm_Qu_becomeUntold g [.ref (a0 o0)] (W_Qu g a0 o0 (gQu_ints v0) (gQu_places v0) (gQu_strengths v0))  (W_Qu g a0 o0 out (gQu_places v0) (gQu_strengths v0)) := by
  refine zMv_of (lv := [(0, .ref (a0 o0))]) (by decide) (Nat.le_of_ble_eq_true rfl) rfl (fun x hl hg C hret => ?_)
  subst hl; subst hg
  rw [f_Qu_becomeUntold] at hf
  refine r_iconst C (v := 0) eX4_becomeUntold_0 (by decide) ?_
  refine r_istore_n C [(1, .int 0), (0, .ref (a0 o0))] eX4_becomeUntold_1 rfl (by decide) rfl ?_
  obtain ⟨q2, h3, hf⟩ := zbind hf
  have J4 : vV x 2 0 0 (W_Qu (z_g x) a0 o0 (q2.2) (gQu_places v0) (gQu_strengths v0)) 24 [(0, .ref (a0 o0))] [] := by
    refine r_aload_n C eX4_becomeUntold_24 0 rfl rfl ?_
    refine r_iconst C (v := 0) eX4_becomeUntold_25 (by decide) ?_
    refine r_put (ws' := W_Qu (z_g x) a0 o0 (upd (q2.2) 13 0) (gQu_places v0) (gQu_strengths v0)) C eX4_becomeUntold_26 PX4_23 0 rfl rfl rfl (Nat.le_of_ble_eq_true rfl) rfl ?_
    obtain rfl := Option.some.inj (show some ((upd (q2.2) 13 0) : (Nat → Int32)) = some _ from hf)
    exact hret _ _ _ eX4_becomeUntold_29
  have L5 : ∀ (nL5 : Nat) (s1 : Int32 × (Nat → Int32)), lp (fB_Qu_becomeUntold_2 v0) nL5 s1 = some q2 → vV x 2 0 0 (W_Qu (z_g x) a0 o0 (s1.2) (gQu_places v0) (gQu_strengths v0)) 2 [(0, .ref (a0 o0)), (1, .int (s1.1))] [] := by
    intro nL5
    induction nL5 with
    | zero => intro s1 hq; cases hq
    | succ nL5 ihL5 =>
      intro s1 hbL5
      rw [lp_succ, fB_Qu_becomeUntold_2] at hbL5
      refine r_iload_n C eX4_becomeUntold_2 1 rfl rfl ?_
      refine r_bipush C (v := 13) eX4_becomeUntold_3 (by decide) ?_
      refine r_icmp_ge C eX4_becomeUntold_5 (fun c6 => ?_) (fun c6 => ?_)
      · rw [if_pos c6] at hbL5
        obtain rfl := Option.some.inj hbL5
        refine r_sub (lv' := [(0, .ref (a0 o0))]) [0] rfl ?_
        exact J4
      · rw [if_neg c6] at hbL5
        refine r_aload_n C eX4_becomeUntold_8 0 rfl rfl ?_
        refine r_iload_n C eX4_becomeUntold_9 1 rfl rfl ?_
        refine r_stab C (f := zT_UNTOLD) eX4_becomeUntold_10 (List.mem_of_getElem? (i := 0) rfl) q356 (fun tt7 hT8 => ?_)
        refine r_iload_n C eX4_becomeUntold_13 1 rfl rfl ?_
        obtain ⟨hb9, hbL5⟩ := zchk hbL5
        refine r_tld C hT8 eX4_becomeUntold_14 (inb_in hb9) ?_
        obtain ⟨r10, hr10, hbL5⟩ := zlet_of hbL5
        refine r_V_v (ws' := W_Qu (z_g x) a0 o0 r10 (gQu_places v0) (gQu_strengths v0)) C (c_Qu_become (z_l x) (z_g x) a0 o0 ((s1.2), (gQu_places v0), (gQu_strengths v0)) (s1.1) (zT_UNTOLD.getD (ix (s1.1)) 0) r10 hr10) eX4_becomeUntold_15 MX4_19 ⟨0, 4, _, _, rfl, rfl, rfl⟩ [0, 1, 2] rfl rfl rfl rfl [] rfl trivial 3 rfl rfl rfl rfl rfl rfl ?_
        refine r_iinc C (v := ((s1.1) + 1)) [(1, .int ((s1.1) + 1)), (0, .ref (a0 o0))] eX4_becomeUntold_18 1 rfl rfl (by decide) rfl ?_
        refine r_goto C eX4_becomeUntold_21 ?_
        refine r_sub (lv' := [(0, .ref (a0 o0)), (1, .int ((s1.1) + 1))]) [1, 0] rfl ?_
        have hc := ihL5 (((s1.1) + 1), r10) hbL5
        exact hc
  refine r_sub (lv' := [(0, .ref (a0 o0)), (1, .int 0)]) [1, 0] rfl ?_
  have hc := L5 LF (0, (gQu_ints v0)) h3
  exact hc
theorem eX4_number_0 : zd 1 cX4_number 0 1 (.iload_n 1) := ⟨by decide +kernel, rfl⟩
theorem eX4_number_1 : decode cX4_number 1 = .ok (.tableswitch 123 0 11 #[63, 68, 73, 78, 83, 88, 93, 98, 103, 108, 113, 118], 63) := by decide +kernel
theorem eX4_number_64 : zd 1 cX4_number 64 65 (.aload_n 0) := ⟨by decide +kernel, rfl⟩
theorem eX4_number_65 : zd 3 cX4_number 65 68 (.getfield 37) := ⟨by decide +kernel, rfl⟩
theorem eX4_number_68 : zd 1 cX4_number 68 69 (.ireturn) := ⟨by decide +kernel, rfl⟩
theorem eX4_number_69 : zd 1 cX4_number 69 70 (.aload_n 0) := ⟨by decide +kernel, rfl⟩
theorem eX4_number_70 : zd 3 cX4_number 70 73 (.getfield 40) := ⟨by decide +kernel, rfl⟩
theorem eX4_number_73 : zd 1 cX4_number 73 74 (.ireturn) := ⟨by decide +kernel, rfl⟩
theorem eX4_number_74 : zd 1 cX4_number 74 75 (.aload_n 0) := ⟨by decide +kernel, rfl⟩
theorem eX4_number_75 : zd 3 cX4_number 75 78 (.getfield 43) := ⟨by decide +kernel, rfl⟩
theorem eX4_number_78 : zd 1 cX4_number 78 79 (.ireturn) := ⟨by decide +kernel, rfl⟩
theorem eX4_number_79 : zd 1 cX4_number 79 80 (.aload_n 0) := ⟨by decide +kernel, rfl⟩
theorem eX4_number_80 : zd 3 cX4_number 80 83 (.getfield 46) := ⟨by decide +kernel, rfl⟩
theorem eX4_number_83 : zd 1 cX4_number 83 84 (.ireturn) := ⟨by decide +kernel, rfl⟩
theorem eX4_number_84 : zd 1 cX4_number 84 85 (.aload_n 0) := ⟨by decide +kernel, rfl⟩
theorem eX4_number_85 : zd 3 cX4_number 85 88 (.getfield 49) := ⟨by decide +kernel, rfl⟩
theorem eX4_number_88 : zd 1 cX4_number 88 89 (.ireturn) := ⟨by decide +kernel, rfl⟩
theorem eX4_number_89 : zd 1 cX4_number 89 90 (.aload_n 0) := ⟨by decide +kernel, rfl⟩
theorem eX4_number_90 : zd 3 cX4_number 90 93 (.getfield 52) := ⟨by decide +kernel, rfl⟩
theorem eX4_number_93 : zd 1 cX4_number 93 94 (.ireturn) := ⟨by decide +kernel, rfl⟩
theorem eX4_number_94 : zd 1 cX4_number 94 95 (.aload_n 0) := ⟨by decide +kernel, rfl⟩
theorem eX4_number_95 : zd 3 cX4_number 95 98 (.getfield 55) := ⟨by decide +kernel, rfl⟩
theorem eX4_number_98 : zd 1 cX4_number 98 99 (.ireturn) := ⟨by decide +kernel, rfl⟩
theorem eX4_number_99 : zd 1 cX4_number 99 100 (.aload_n 0) := ⟨by decide +kernel, rfl⟩
theorem eX4_number_100 : zd 3 cX4_number 100 103 (.getfield 58) := ⟨by decide +kernel, rfl⟩
theorem eX4_number_103 : zd 1 cX4_number 103 104 (.ireturn) := ⟨by decide +kernel, rfl⟩
theorem eX4_number_104 : zd 1 cX4_number 104 105 (.aload_n 0) := ⟨by decide +kernel, rfl⟩
theorem eX4_number_105 : zd 3 cX4_number 105 108 (.getfield 61) := ⟨by decide +kernel, rfl⟩
theorem eX4_number_108 : zd 1 cX4_number 108 109 (.ireturn) := ⟨by decide +kernel, rfl⟩
theorem eX4_number_109 : zd 1 cX4_number 109 110 (.aload_n 0) := ⟨by decide +kernel, rfl⟩
theorem eX4_number_110 : zd 3 cX4_number 110 113 (.getfield 64) := ⟨by decide +kernel, rfl⟩
theorem eX4_number_113 : zd 1 cX4_number 113 114 (.ireturn) := ⟨by decide +kernel, rfl⟩
theorem eX4_number_114 : zd 1 cX4_number 114 115 (.aload_n 0) := ⟨by decide +kernel, rfl⟩
theorem eX4_number_115 : zd 3 cX4_number 115 118 (.getfield 67) := ⟨by decide +kernel, rfl⟩
theorem eX4_number_118 : zd 1 cX4_number 118 119 (.ireturn) := ⟨by decide +kernel, rfl⟩
theorem eX4_number_119 : zd 1 cX4_number 119 120 (.aload_n 0) := ⟨by decide +kernel, rfl⟩
theorem eX4_number_120 : zd 3 cX4_number 120 123 (.getfield 70) := ⟨by decide +kernel, rfl⟩
theorem eX4_number_123 : zd 1 cX4_number 123 124 (.ireturn) := ⟨by decide +kernel, rfl⟩
theorem eX4_number_124 : zd 1 cX4_number 124 125 (.aload_n 0) := ⟨by decide +kernel, rfl⟩
theorem eX4_number_125 : zd 3 cX4_number 125 128 (.getfield 73) := ⟨by decide +kernel, rfl⟩
theorem eX4_number_128 : zd 1 cX4_number 128 129 (.ireturn) := ⟨by decide +kernel, rfl⟩
theorem FX4_37 : zlF RX4 37 4 0 := ⟨(RX4, TX4, 16), rfl, by decide, q55, zin4⟩
theorem FX4_40 : zlF RX4 40 4 1 := ⟨(RX4, TX4, 16), rfl, by decide, q58, zin4⟩
theorem FX4_46 : zlF RX4 46 4 3 := ⟨(RX4, TX4, 16), rfl, by decide, q63, zin4⟩
theorem FX4_49 : zlF RX4 49 4 4 := ⟨(RX4, TX4, 16), rfl, by decide, q65, zin4⟩
theorem FX4_52 : zlF RX4 52 4 5 := ⟨(RX4, TX4, 16), rfl, by decide, q67, zin4⟩
theorem FX4_55 : zlF RX4 55 4 6 := ⟨(RX4, TX4, 16), rfl, by decide, q69, zin4⟩
theorem FX4_58 : zlF RX4 58 4 7 := ⟨(RX4, TX4, 16), rfl, by decide, q71, zin4⟩
theorem FX4_61 : zlF RX4 61 4 8 := ⟨(RX4, TX4, 16), rfl, by decide, q73, zin4⟩
theorem FX4_64 : zlF RX4 64 4 9 := ⟨(RX4, TX4, 16), rfl, by decide, q75, zin4⟩
theorem FX4_67 : zlF RX4 67 4 10 := ⟨(RX4, TX4, 16), rfl, by decide, q78, zin4⟩
theorem FX4_70 : zlF RX4 70 4 11 := ⟨(RX4, TX4, 16), rfl, by decide, q81, zin4⟩
theorem FX4_73 : zlF RX4 73 4 12 := ⟨(RX4, TX4, 16), rfl, by decide, q83, zin4⟩
noncomputable def f_Qu_number (v0 : tQu) (p1 : Int32) : Int32 := (if p1 = 0 then ((gQu_ints v0) 0) else (if p1 = 1 then ((gQu_ints v0) 1) else (if p1 = 2 then ((gQu_ints v0) 2) else (if p1 = 3 then ((gQu_ints v0) 3) else (if p1 = 4 then ((gQu_ints v0) 4) else (if p1 = 5 then ((gQu_ints v0) 5) else (if p1 = 6 then ((gQu_ints v0) 6) else (if p1 = 7 then ((gQu_ints v0) 7) else (if p1 = 8 then ((gQu_ints v0) 8) else (if p1 = 9 then ((gQu_ints v0) 9) else (if p1 = 10 then ((gQu_ints v0) 10) else (if p1 = 11 then ((gQu_ints v0) 11) else ((gQu_ints v0) 12)))))))))))))
abbrev rm_Qu_number : Room := { frames := 0, cells := 0, slots := 0, locals := 0 }
set_option maxHeartbeats 4000000 in
set_option maxRecDepth 100000 in
theorem c_Qu_number (l : Launch) (g : zGl) (a0 : Nat → Nat) (o0 : Nat) (v0 : tQu) (p1 : Int32) (out : Int32) (hf : f_Qu_number v0 p1 = out) : zMi l yX4_number cX4_number 2 rm_Qu_number g [.ref (a0 o0), .int p1] (W_Qu g a0 o0 (gQu_ints v0) (gQu_places v0) (gQu_strengths v0)) out (W_Qu g a0 o0 (gQu_ints v0) (gQu_places v0) (gQu_strengths v0)) := by
  refine zMi_of (lv := [(0, .ref (a0 o0)), (1, .int p1)]) (by decide) (Nat.le_of_ble_eq_true rfl) rfl (fun x hl hg C hret => ?_)
  subst hl; subst hg
  rw [f_Qu_number] at hf
  refine r_iload_n C eX4_number_0 1 rfl rfl ?_
  by_cases c1 : p1 = 0
  · rw [if_pos c1] at hf
    refine r_tabIn C (v := 0) eX4_number_1 c1 63 64 ⟨by decide, rfl, by decide⟩ ?_
    refine r_aload_n C eX4_number_64 0 rfl rfl ?_
    refine r_get (v := .int ((gQu_ints v0) 0)) C eX4_number_65 FX4_37 0 rfl rfl ?_
    subst hf
    exact hret _ _ _ eX4_number_68
  rw [if_neg c1] at hf
  by_cases c2 : p1 = 1
  · rw [if_pos c2] at hf
    refine r_tabIn C (v := 1) eX4_number_1 c2 68 69 ⟨by decide, rfl, by decide⟩ ?_
    refine r_aload_n C eX4_number_69 0 rfl rfl ?_
    refine r_get (v := .int ((gQu_ints v0) 1)) C eX4_number_70 FX4_40 0 rfl rfl ?_
    subst hf
    exact hret _ _ _ eX4_number_73
  rw [if_neg c2] at hf
  by_cases c3 : p1 = 2
  · rw [if_pos c3] at hf
    refine r_tabIn C (v := 2) eX4_number_1 c3 73 74 ⟨by decide, rfl, by decide⟩ ?_
    refine r_aload_n C eX4_number_74 0 rfl rfl ?_
    refine r_get (v := .int ((gQu_ints v0) 2)) C eX4_number_75 FX4_43 0 rfl rfl ?_
    subst hf
    exact hret _ _ _ eX4_number_78
  rw [if_neg c3] at hf
  by_cases c4 : p1 = 3
  · rw [if_pos c4] at hf
    refine r_tabIn C (v := 3) eX4_number_1 c4 78 79 ⟨by decide, rfl, by decide⟩ ?_
    refine r_aload_n C eX4_number_79 0 rfl rfl ?_
    refine r_get (v := .int ((gQu_ints v0) 3)) C eX4_number_80 FX4_46 0 rfl rfl ?_
    subst hf
    exact hret _ _ _ eX4_number_83
  rw [if_neg c4] at hf
  by_cases c5 : p1 = 4
  · rw [if_pos c5] at hf
    refine r_tabIn C (v := 4) eX4_number_1 c5 83 84 ⟨by decide, rfl, by decide⟩ ?_
    refine r_aload_n C eX4_number_84 0 rfl rfl ?_
    refine r_get (v := .int ((gQu_ints v0) 4)) C eX4_number_85 FX4_49 0 rfl rfl ?_
    subst hf
    exact hret _ _ _ eX4_number_88
  rw [if_neg c5] at hf
  by_cases c6 : p1 = 5
  · rw [if_pos c6] at hf
    refine r_tabIn C (v := 5) eX4_number_1 c6 88 89 ⟨by decide, rfl, by decide⟩ ?_
    refine r_aload_n C eX4_number_89 0 rfl rfl ?_
    refine r_get (v := .int ((gQu_ints v0) 5)) C eX4_number_90 FX4_52 0 rfl rfl ?_
    subst hf
    exact hret _ _ _ eX4_number_93
  rw [if_neg c6] at hf
  by_cases c7 : p1 = 6
  · rw [if_pos c7] at hf
    refine r_tabIn C (v := 6) eX4_number_1 c7 93 94 ⟨by decide, rfl, by decide⟩ ?_
    refine r_aload_n C eX4_number_94 0 rfl rfl ?_
    refine r_get (v := .int ((gQu_ints v0) 6)) C eX4_number_95 FX4_55 0 rfl rfl ?_
    subst hf
    exact hret _ _ _ eX4_number_98
  rw [if_neg c7] at hf
  by_cases c8 : p1 = 7
  · rw [if_pos c8] at hf
    refine r_tabIn C (v := 7) eX4_number_1 c8 98 99 ⟨by decide, rfl, by decide⟩ ?_
    refine r_aload_n C eX4_number_99 0 rfl rfl ?_
    refine r_get (v := .int ((gQu_ints v0) 7)) C eX4_number_100 FX4_58 0 rfl rfl ?_
    subst hf
    exact hret _ _ _ eX4_number_103
  rw [if_neg c8] at hf
  by_cases c9 : p1 = 8
  · rw [if_pos c9] at hf
    refine r_tabIn C (v := 8) eX4_number_1 c9 103 104 ⟨by decide, rfl, by decide⟩ ?_
    refine r_aload_n C eX4_number_104 0 rfl rfl ?_
    refine r_get (v := .int ((gQu_ints v0) 8)) C eX4_number_105 FX4_61 0 rfl rfl ?_
    subst hf
    exact hret _ _ _ eX4_number_108
  rw [if_neg c9] at hf
  by_cases c10 : p1 = 9
  · rw [if_pos c10] at hf
    refine r_tabIn C (v := 9) eX4_number_1 c10 108 109 ⟨by decide, rfl, by decide⟩ ?_
    refine r_aload_n C eX4_number_109 0 rfl rfl ?_
    refine r_get (v := .int ((gQu_ints v0) 9)) C eX4_number_110 FX4_64 0 rfl rfl ?_
    subst hf
    exact hret _ _ _ eX4_number_113
  rw [if_neg c10] at hf
  by_cases c11 : p1 = 10
  · rw [if_pos c11] at hf
    refine r_tabIn C (v := 10) eX4_number_1 c11 113 114 ⟨by decide, rfl, by decide⟩ ?_
    refine r_aload_n C eX4_number_114 0 rfl rfl ?_
    refine r_get (v := .int ((gQu_ints v0) 10)) C eX4_number_115 FX4_67 0 rfl rfl ?_
    subst hf
    exact hret _ _ _ eX4_number_118
  rw [if_neg c11] at hf
  by_cases c12 : p1 = 11
  · rw [if_pos c12] at hf
    refine r_tabIn C (v := 11) eX4_number_1 c12 118 119 ⟨by decide, rfl, by decide⟩ ?_
    refine r_aload_n C eX4_number_119 0 rfl rfl ?_
    refine r_get (v := .int ((gQu_ints v0) 11)) C eX4_number_120 FX4_70 0 rfl rfl ?_
    subst hf
    exact hret _ _ _ eX4_number_123
  rw [if_neg c12] at hf
  refine r_tabOut C eX4_number_1 (fun i h1 h2 => by rcases (show i = 0 ∨ i = 1 ∨ i = 2 ∨ i = 3 ∨ i = 4 ∨ i = 5 ∨ i = 6 ∨ i = 7 ∨ i = 8 ∨ i = 9 ∨ i = 10 ∨ i = 11 by omega) with rfl | rfl | rfl | rfl | rfl | rfl | rfl | rfl | rfl | rfl | rfl | rfl <;> assumption) 124 (by decide) ?_
  refine r_aload_n C eX4_number_124 0 rfl rfl ?_
  refine r_get (v := .int ((gQu_ints v0) 12)) C eX4_number_125 FX4_73 0 rfl rfl ?_
  subst hf
  exact hret _ _ _ eX4_number_128
theorem eX4_copyFrom_0 : zd 1 cX4_copyFrom 0 1 (.iconst 0) := ⟨by decide +kernel, rfl⟩
theorem eX4_copyFrom_1 : zd 1 cX4_copyFrom 1 2 (.istore_n 2) := ⟨by decide +kernel, rfl⟩
theorem eX4_copyFrom_2 : zd 1 cX4_copyFrom 2 3 (.iload_n 2) := ⟨by decide +kernel, rfl⟩
theorem eX4_copyFrom_3 : zd 2 cX4_copyFrom 3 5 (.bipush 13) := ⟨by decide +kernel, rfl⟩
theorem eX4_copyFrom_5 : zdi cX4_copyFrom 5 8 24 (.if_icmp .ge) := ⟨19, by decide +kernel, rfl, by decide⟩
theorem eX4_copyFrom_8 : zd 1 cX4_copyFrom 8 9 (.aload_n 0) := ⟨by decide +kernel, rfl⟩
theorem eX4_copyFrom_9 : zd 1 cX4_copyFrom 9 10 (.iload_n 2) := ⟨by decide +kernel, rfl⟩
theorem eX4_copyFrom_10 : zd 1 cX4_copyFrom 10 11 (.aload_n 1) := ⟨by decide +kernel, rfl⟩
theorem eX4_copyFrom_11 : zd 1 cX4_copyFrom 11 12 (.iload_n 2) := ⟨by decide +kernel, rfl⟩
theorem eX4_copyFrom_12 : zd 3 cX4_copyFrom 12 15 (.invokevirtual 27) := ⟨by decide +kernel, rfl⟩
theorem eX4_copyFrom_15 : zd 3 cX4_copyFrom 15 18 (.invokevirtual 19) := ⟨by decide +kernel, rfl⟩
theorem eX4_copyFrom_18 : zd 3 cX4_copyFrom 18 21 (.iinc 2 1) := ⟨by decide +kernel, rfl⟩
theorem eX4_copyFrom_21 : zdi cX4_copyFrom 21 24 2 (.goto) := ⟨(-19), by decide +kernel, rfl, by decide⟩
theorem eX4_copyFrom_24 : zd 1 cX4_copyFrom 24 25 (.aload_n 1) := ⟨by decide +kernel, rfl⟩
theorem eX4_copyFrom_25 : zd 3 cX4_copyFrom 25 28 (.getfield 9) := ⟨by decide +kernel, rfl⟩
theorem eX4_copyFrom_28 : zd 1 cX4_copyFrom 28 29 (.iconst 0) := ⟨by decide +kernel, rfl⟩
theorem eX4_copyFrom_29 : zd 1 cX4_copyFrom 29 30 (.aload_n 0) := ⟨by decide +kernel, rfl⟩
theorem eX4_copyFrom_30 : zd 3 cX4_copyFrom 30 33 (.getfield 9) := ⟨by decide +kernel, rfl⟩
theorem eX4_copyFrom_33 : zd 1 cX4_copyFrom 33 34 (.iconst 0) := ⟨by decide +kernel, rfl⟩
theorem eX4_copyFrom_34 : zd 2 cX4_copyFrom 34 36 (.bipush 12) := ⟨by decide +kernel, rfl⟩
theorem eX4_copyFrom_36 : zd 3 cX4_copyFrom 36 39 (.invokestatic 31) := ⟨by decide +kernel, rfl⟩
theorem eX4_copyFrom_39 : zd 1 cX4_copyFrom 39 40 (.aload_n 1) := ⟨by decide +kernel, rfl⟩
theorem eX4_copyFrom_40 : zd 3 cX4_copyFrom 40 43 (.getfield 13) := ⟨by decide +kernel, rfl⟩
theorem eX4_copyFrom_43 : zd 1 cX4_copyFrom 43 44 (.iconst 0) := ⟨by decide +kernel, rfl⟩
theorem eX4_copyFrom_44 : zd 1 cX4_copyFrom 44 45 (.aload_n 0) := ⟨by decide +kernel, rfl⟩
theorem eX4_copyFrom_45 : zd 3 cX4_copyFrom 45 48 (.getfield 13) := ⟨by decide +kernel, rfl⟩
theorem eX4_copyFrom_48 : zd 1 cX4_copyFrom 48 49 (.iconst 0) := ⟨by decide +kernel, rfl⟩
theorem eX4_copyFrom_49 : zd 2 cX4_copyFrom 49 51 (.bipush 12) := ⟨by decide +kernel, rfl⟩
theorem eX4_copyFrom_51 : zd 3 cX4_copyFrom 51 54 (.invokestatic 31) := ⟨by decide +kernel, rfl⟩
theorem eX4_copyFrom_54 : zd 1 cX4_copyFrom 54 55 (.aload_n 0) := ⟨by decide +kernel, rfl⟩
theorem eX4_copyFrom_55 : zd 1 cX4_copyFrom 55 56 (.aload_n 1) := ⟨by decide +kernel, rfl⟩
theorem eX4_copyFrom_56 : zd 3 cX4_copyFrom 56 59 (.getfield 23) := ⟨by decide +kernel, rfl⟩
theorem eX4_copyFrom_59 : zd 3 cX4_copyFrom 59 62 (.putfield 23) := ⟨by decide +kernel, rfl⟩
theorem eX4_copyFrom_62 : zd 1 cX4_copyFrom 62 63 (.return_) := ⟨by decide +kernel, rfl⟩
theorem MX4_27 : zlV RX4 27 yX4_number cX4_number 2 ((Option.some FieldType.int)) 1 := ⟨q602, q603, q604, q4, q605, by decide, by decide, by decide +kernel⟩
noncomputable def fB_Qu_copyFrom_2 (v0 : tQu) (v1 : tQu) (ih : (Int32 × (Nat → Int32)) → Option (Int32 × (Nat → Int32))) (s1 : Int32 × (Nat → Int32)) : Option (Int32 × (Nat → Int32)) := (if 13 ≤ (s1.1) then (some ((s1.1), (s1.2))) else (zlet (f_Qu_become ((s1.2), (gQu_places v0), (gQu_strengths v0)) (s1.1) (f_Qu_number v1 (s1.1))) (fun (r7 : (Nat → Int32)) => (ih (((s1.1) + 1), r7)))))
noncomputable def f_Qu_copyFrom (v0 : tQu) (v1 : tQu)  : Option ((Nat → Int32) × (Nat → Int32) × (Nat → Int32)) := (Option.bind (lp (fB_Qu_copyFrom_2 v0 v1) LF (0, (gQu_ints v0))) (fun (q2 : Int32 × (Nat → Int32)) => (some ((upd (q2.2) 13 ((gQu_ints v1) 13)), (va_cpy (gQu_places v1) (gQu_places v0) 0 0 12), (va_cpy (gQu_strengths v1) (gQu_strengths v0) 0 0 12)))))
abbrev rm_Qu_copyFrom : Room := { frames := 1, cells := 0, slots := 0, locals := 60 }
set_option maxHeartbeats 4000000 in
set_option maxRecDepth 100000 in
theorem c_Qu_copyFrom (l : Launch) (g : zGl) (a0 : Nat → Nat) (o0 : Nat) (v0 : tQu) (a1 : Nat → Nat) (o1 : Nat) (v1 : tQu)  (out : (Nat → Int32) × (Nat → Int32) × (Nat → Int32)) (hf : f_Qu_copyFrom v0 v1 = some out) : zMv l yX4_copyFrom cX4_copyFrom 3 rm_Qu_copyFrom g [.ref (a0 o0), .ref (a1 o1)] (W_Qu g a0 o0 (gQu_ints v0) (gQu_places v0) (gQu_strengths v0) ++ W_Qu g a1 o1 (gQu_ints v1) (gQu_places v1) (gQu_strengths v1))  (W_Qu g a0 o0 (out.1) (out.2.1) (out.2.2) ++ W_Qu g a1 o1 (gQu_ints v1) (gQu_places v1) (gQu_strengths v1)) := by
  refine zMv_of (lv := [(0, .ref (a0 o0)), (1, .ref (a1 o1))]) (by decide) (Nat.le_of_ble_eq_true rfl) rfl (fun x hl hg C hret => ?_)
  subst hl; subst hg
  rw [f_Qu_copyFrom] at hf
  refine r_iconst C (v := 0) eX4_copyFrom_0 (by decide) ?_
  refine r_istore_n C [(2, .int 0), (0, .ref (a0 o0)), (1, .ref (a1 o1))] eX4_copyFrom_1 rfl (by decide) rfl ?_
  obtain ⟨q2, h3, hf⟩ := zbind hf
  have J4 : vV x 3 0 0 (W_Qu (z_g x) a0 o0 (q2.2) (gQu_places v0) (gQu_strengths v0) ++ W_Qu (z_g x) a1 o1 (gQu_ints v1) (gQu_places v1) (gQu_strengths v1)) 24 [(0, .ref (a0 o0)), (1, .ref (a1 o1))] [] := by
    refine r_aload_n C eX4_copyFrom_24 1 rfl rfl ?_
    refine r_get (v := .ref (a1 (o1 + 1))) C eX4_copyFrom_25 FX4_9 3 rfl rfl ?_
    refine r_iconst C (v := 0) eX4_copyFrom_28 (by decide) ?_
    refine r_aload_n C eX4_copyFrom_29 0 rfl rfl ?_
    refine r_get (v := .ref (a0 (o0 + 1))) C eX4_copyFrom_30 FX4_9 0 rfl rfl ?_
    refine r_iconst C (v := 0) eX4_copyFrom_33 (by decide) ?_
    refine r_bipush C (v := 12) eX4_copyFrom_34 (by decide) ?_
    refine r_copy (n := 12) (ws' := W_Qu (z_g x) a0 o0 (q2.2) (va_cpy (gQu_places v1) (gQu_places v0) 0 0 12) (gQu_strengths v0) ++ W_Qu (z_g x) a1 o1 (gQu_ints v1) (gQu_places v1) (gQu_strengths v1)) C eX4_copyFrom_36 q606 (C.ts _ q608) q607 q17 4 1 rfl rfl (by decide) (Nat.le_of_ble_eq_true rfl) (Nat.le_of_ble_eq_true rfl) rfl ?_
    refine r_aload_n C eX4_copyFrom_39 1 rfl rfl ?_
    refine r_get (v := .ref (a1 (o1 + 2))) C eX4_copyFrom_40 FX4_13 3 rfl rfl ?_
    refine r_iconst C (v := 0) eX4_copyFrom_43 (by decide) ?_
    refine r_aload_n C eX4_copyFrom_44 0 rfl rfl ?_
    refine r_get (v := .ref (a0 (o0 + 2))) C eX4_copyFrom_45 FX4_13 0 rfl rfl ?_
    refine r_iconst C (v := 0) eX4_copyFrom_48 (by decide) ?_
    refine r_bipush C (v := 12) eX4_copyFrom_49 (by decide) ?_
    refine r_copy (n := 12) (ws' := W_Qu (z_g x) a0 o0 (q2.2) (va_cpy (gQu_places v1) (gQu_places v0) 0 0 12) (va_cpy (gQu_strengths v1) (gQu_strengths v0) 0 0 12) ++ W_Qu (z_g x) a1 o1 (gQu_ints v1) (gQu_places v1) (gQu_strengths v1)) C eX4_copyFrom_51 q606 (C.ts _ q608) q607 q17 5 2 rfl rfl (by decide) (Nat.le_of_ble_eq_true rfl) (Nat.le_of_ble_eq_true rfl) rfl ?_
    refine r_aload_n C eX4_copyFrom_54 0 rfl rfl ?_
    refine r_aload_n C eX4_copyFrom_55 1 rfl rfl ?_
    refine r_get (v := .int ((gQu_ints v1) 13)) C eX4_copyFrom_56 FX4_23 3 rfl rfl ?_
    refine r_put (ws' := W_Qu (z_g x) a0 o0 (upd (q2.2) 13 ((gQu_ints v1) 13)) (va_cpy (gQu_places v1) (gQu_places v0) 0 0 12) (va_cpy (gQu_strengths v1) (gQu_strengths v0) 0 0 12) ++ W_Qu (z_g x) a1 o1 (gQu_ints v1) (gQu_places v1) (gQu_strengths v1)) C eX4_copyFrom_59 PX4_23 0 rfl rfl rfl (Nat.le_of_ble_eq_true rfl) rfl ?_
    obtain rfl := Option.some.inj (show some (((upd (q2.2) 13 ((gQu_ints v1) 13)), (va_cpy (gQu_places v1) (gQu_places v0) 0 0 12), (va_cpy (gQu_strengths v1) (gQu_strengths v0) 0 0 12)) : (Nat → Int32) × (Nat → Int32) × (Nat → Int32)) = some _ from hf)
    exact hret _ _ _ eX4_copyFrom_62
  have L5 : ∀ (nL5 : Nat) (s1 : Int32 × (Nat → Int32)), lp (fB_Qu_copyFrom_2 v0 v1) nL5 s1 = some q2 → vV x 3 0 0 (W_Qu (z_g x) a0 o0 (s1.2) (gQu_places v0) (gQu_strengths v0) ++ W_Qu (z_g x) a1 o1 (gQu_ints v1) (gQu_places v1) (gQu_strengths v1)) 2 [(0, .ref (a0 o0)), (1, .ref (a1 o1)), (2, .int (s1.1))] [] := by
    intro nL5
    induction nL5 with
    | zero => intro s1 hq; cases hq
    | succ nL5 ihL5 =>
      intro s1 hbL5
      rw [lp_succ, fB_Qu_copyFrom_2] at hbL5
      refine r_iload_n C eX4_copyFrom_2 2 rfl rfl ?_
      refine r_bipush C (v := 13) eX4_copyFrom_3 (by decide) ?_
      refine r_icmp_ge C eX4_copyFrom_5 (fun c6 => ?_) (fun c6 => ?_)
      · rw [if_pos c6] at hbL5
        obtain rfl := Option.some.inj hbL5
        refine r_sub (lv' := [(0, .ref (a0 o0)), (1, .ref (a1 o1))]) [0, 1] rfl ?_
        exact J4
      · rw [if_neg c6] at hbL5
        refine r_aload_n C eX4_copyFrom_8 0 rfl rfl ?_
        refine r_iload_n C eX4_copyFrom_9 2 rfl rfl ?_
        refine r_aload_n C eX4_copyFrom_10 1 rfl rfl ?_
        refine r_iload_n C eX4_copyFrom_11 2 rfl rfl ?_
        refine r_V_i (ws' := W_Qu (z_g x) a0 o0 (s1.2) (gQu_places v0) (gQu_strengths v0) ++ W_Qu (z_g x) a1 o1 (gQu_ints v1) (gQu_places v1) (gQu_strengths v1)) C (c_Qu_number (z_l x) (z_g x) a1 o1 v1 (s1.1) _ rfl) eX4_copyFrom_12 MX4_27 ⟨0, 4, _, _, rfl, rfl, rfl⟩ [3, 4, 5] rfl rfl rfl rfl [0, 1, 2] rfl ⟨rfl, rfl, rfl, trivial⟩ 6 rfl rfl rfl rfl rfl rfl ?_
        obtain ⟨r7, hr7, hbL5⟩ := zlet_of hbL5
        refine r_V_v (ws' := W_Qu (z_g x) a0 o0 r7 (gQu_places v0) (gQu_strengths v0) ++ W_Qu (z_g x) a1 o1 (gQu_ints v1) (gQu_places v1) (gQu_strengths v1)) C (c_Qu_become (z_l x) (z_g x) a0 o0 ((s1.2), (gQu_places v0), (gQu_strengths v0)) (s1.1) (f_Qu_number v1 (s1.1)) r7 hr7) eX4_copyFrom_15 MX4_19 ⟨0, 4, _, _, rfl, rfl, rfl⟩ [0, 1, 2] rfl rfl rfl rfl [3, 4, 5] rfl ⟨rfl, rfl, rfl, trivial⟩ 6 rfl rfl rfl rfl rfl rfl ?_
        refine r_iinc C (v := ((s1.1) + 1)) [(2, .int ((s1.1) + 1)), (0, .ref (a0 o0)), (1, .ref (a1 o1))] eX4_copyFrom_18 2 rfl rfl (by decide) rfl ?_
        refine r_goto C eX4_copyFrom_21 ?_
        refine r_sub (lv' := [(0, .ref (a0 o0)), (1, .ref (a1 o1)), (2, .int ((s1.1) + 1))]) [1, 2, 0] rfl ?_
        have hc := ihL5 (((s1.1) + 1), r7) hbL5
        exact hc
  refine r_sub (lv' := [(0, .ref (a0 o0)), (1, .ref (a1 o1)), (2, .int 0)]) [1, 2, 0] rfl ?_
  have hc := L5 LF (0, (gQu_ints v0)) h3
  exact hc
theorem eX4_hasPost_0 : zd 1 cX4_hasPost 0 1 (.iload_n 1) := ⟨by decide +kernel, rfl⟩
theorem eX4_hasPost_1 : zdi cX4_hasPost 1 4 22 (.ifCond .lt) := ⟨21, by decide +kernel, rfl, by decide⟩
theorem eX4_hasPost_4 : zd 1 cX4_hasPost 4 5 (.iload_n 1) := ⟨by decide +kernel, rfl⟩
theorem eX4_hasPost_5 : zd 1 cX4_hasPost 5 6 (.aload_n 0) := ⟨by decide +kernel, rfl⟩
theorem eX4_hasPost_6 : zd 3 cX4_hasPost 6 9 (.getfield 23) := ⟨by decide +kernel, rfl⟩
theorem eX4_hasPost_9 : zdi cX4_hasPost 9 12 22 (.if_icmp .ge) := ⟨13, by decide +kernel, rfl, by decide⟩
theorem eX4_hasPost_12 : zd 1 cX4_hasPost 12 13 (.iload_n 1) := ⟨by decide +kernel, rfl⟩
theorem eX4_hasPost_13 : zd 2 cX4_hasPost 13 15 (.bipush 12) := ⟨by decide +kernel, rfl⟩
theorem eX4_hasPost_15 : zdi cX4_hasPost 15 18 22 (.if_icmp .ge) := ⟨7, by decide +kernel, rfl, by decide⟩
theorem eX4_hasPost_18 : zd 1 cX4_hasPost 18 19 (.iconst 1) := ⟨by decide +kernel, rfl⟩
theorem eX4_hasPost_19 : zdi cX4_hasPost 19 22 23 (.goto) := ⟨4, by decide +kernel, rfl, by decide⟩
theorem eX4_hasPost_22 : zd 1 cX4_hasPost 22 23 (.iconst 0) := ⟨by decide +kernel, rfl⟩
theorem eX4_hasPost_23 : zd 1 cX4_hasPost 23 24 (.ireturn) := ⟨by decide +kernel, rfl⟩
noncomputable def f_Qu_hasPost (v0 : tQu) (p1 : Int32) : Int32 := (if p1 < 0 then 0 else (if ((gQu_ints v0) 13) ≤ p1 then 0 else (if 12 ≤ p1 then 0 else 1)))
abbrev rm_Qu_hasPost : Room := { frames := 0, cells := 0, slots := 0, locals := 0 }
set_option maxHeartbeats 4000000 in
set_option maxRecDepth 100000 in
theorem c_Qu_hasPost (l : Launch) (g : zGl) (a0 : Nat → Nat) (o0 : Nat) (v0 : tQu) (p1 : Int32) (out : Int32) (hf : f_Qu_hasPost v0 p1 = out) : zMz l yX4_hasPost cX4_hasPost 2 rm_Qu_hasPost g [.ref (a0 o0), .int p1] (W_Qu g a0 o0 (gQu_ints v0) (gQu_places v0) (gQu_strengths v0)) out (W_Qu g a0 o0 (gQu_ints v0) (gQu_places v0) (gQu_strengths v0)) := by
  refine zMz_of (lv := [(0, .ref (a0 o0)), (1, .int p1)]) (by decide) (Nat.le_of_ble_eq_true rfl) rfl (fun x hl hg C hret => ?_)
  subst hl; subst hg
  rw [f_Qu_hasPost] at hf
  refine r_iload_n C eX4_hasPost_0 1 rfl rfl ?_
  refine r_if_lt C eX4_hasPost_1 (fun c1 => ?_) (fun c1 => ?_)
  · rw [if_pos c1] at hf
    refine r_iconst C (v := 0) eX4_hasPost_22 (by decide) ?_
    subst hf
    exact hret _ _ _ eX4_hasPost_23 zB0
  · rw [if_neg c1] at hf
    refine r_iload_n C eX4_hasPost_4 1 rfl rfl ?_
    refine r_aload_n C eX4_hasPost_5 0 rfl rfl ?_
    refine r_get (v := .int ((gQu_ints v0) 13)) C eX4_hasPost_6 FX4_23 0 rfl rfl ?_
    refine r_icmp_ge C eX4_hasPost_9 (fun c2 => ?_) (fun c2 => ?_)
    · rw [if_pos c2] at hf
      refine r_iconst C (v := 0) eX4_hasPost_22 (by decide) ?_
      subst hf
      exact hret _ _ _ eX4_hasPost_23 zB0
    · rw [if_neg c2] at hf
      refine r_iload_n C eX4_hasPost_12 1 rfl rfl ?_
      refine r_bipush C (v := 12) eX4_hasPost_13 (by decide) ?_
      refine r_icmp_ge C eX4_hasPost_15 (fun c3 => ?_) (fun c3 => ?_)
      · rw [if_pos c3] at hf
        refine r_iconst C (v := 0) eX4_hasPost_22 (by decide) ?_
        subst hf
        exact hret _ _ _ eX4_hasPost_23 zB0
      · rw [if_neg c3] at hf
        refine r_iconst C (v := 1) eX4_hasPost_18 (by decide) ?_
        refine r_goto C eX4_hasPost_19 ?_
        subst hf
        exact hret _ _ _ eX4_hasPost_23 zB1
theorem eX4_hasPostAt_0 : zd 1 cX4_hasPostAt 0 1 (.iconst 0) := ⟨by decide +kernel, rfl⟩
theorem eX4_hasPostAt_1 : zd 1 cX4_hasPostAt 1 2 (.istore_n 2) := ⟨by decide +kernel, rfl⟩
theorem eX4_hasPostAt_2 : zd 1 cX4_hasPostAt 2 3 (.iload_n 2) := ⟨by decide +kernel, rfl⟩
theorem eX4_hasPostAt_3 : zd 1 cX4_hasPostAt 3 4 (.aload_n 0) := ⟨by decide +kernel, rfl⟩
theorem eX4_hasPostAt_4 : zd 3 cX4_hasPostAt 4 7 (.getfield 23) := ⟨by decide +kernel, rfl⟩
theorem eX4_hasPostAt_7 : zdi cX4_hasPostAt 7 10 34 (.if_icmp .ge) := ⟨27, by decide +kernel, rfl, by decide⟩
theorem eX4_hasPostAt_10 : zd 1 cX4_hasPostAt 10 11 (.iload_n 2) := ⟨by decide +kernel, rfl⟩
theorem eX4_hasPostAt_11 : zd 2 cX4_hasPostAt 11 13 (.bipush 12) := ⟨by decide +kernel, rfl⟩
theorem eX4_hasPostAt_13 : zdi cX4_hasPostAt 13 16 34 (.if_icmp .ge) := ⟨21, by decide +kernel, rfl, by decide⟩
theorem eX4_hasPostAt_16 : zd 1 cX4_hasPostAt 16 17 (.aload_n 0) := ⟨by decide +kernel, rfl⟩
theorem eX4_hasPostAt_17 : zd 3 cX4_hasPostAt 17 20 (.getfield 9) := ⟨by decide +kernel, rfl⟩
theorem eX4_hasPostAt_20 : zd 1 cX4_hasPostAt 20 21 (.iload_n 2) := ⟨by decide +kernel, rfl⟩
theorem eX4_hasPostAt_21 : zd 1 cX4_hasPostAt 21 22 (.iaload) := ⟨by decide +kernel, rfl⟩
theorem eX4_hasPostAt_22 : zd 1 cX4_hasPostAt 22 23 (.iload_n 1) := ⟨by decide +kernel, rfl⟩
theorem eX4_hasPostAt_23 : zdi cX4_hasPostAt 23 26 28 (.if_icmp .ne) := ⟨5, by decide +kernel, rfl, by decide⟩
theorem eX4_hasPostAt_26 : zd 1 cX4_hasPostAt 26 27 (.iconst 1) := ⟨by decide +kernel, rfl⟩
theorem eX4_hasPostAt_27 : zd 1 cX4_hasPostAt 27 28 (.ireturn) := ⟨by decide +kernel, rfl⟩
theorem eX4_hasPostAt_28 : zd 3 cX4_hasPostAt 28 31 (.iinc 2 1) := ⟨by decide +kernel, rfl⟩
theorem eX4_hasPostAt_31 : zdi cX4_hasPostAt 31 34 2 (.goto) := ⟨(-29), by decide +kernel, rfl, by decide⟩
theorem eX4_hasPostAt_34 : zd 1 cX4_hasPostAt 34 35 (.iconst 0) := ⟨by decide +kernel, rfl⟩
theorem eX4_hasPostAt_35 : zd 1 cX4_hasPostAt 35 36 (.ireturn) := ⟨by decide +kernel, rfl⟩
noncomputable def fB_Qu_hasPostAt_2 (v0 : tQu) (p1 : Int32) (ih : (Int32) → Option ((Int32) ⊕ (Int32))) (s1 : Int32) : Option ((Int32) ⊕ (Int32)) := (if ((gQu_ints v0) 13) ≤ s1 then (some (Sum.inr s1)) else (if 12 ≤ s1 then (some (Sum.inr s1)) else (if inb s1 12 = true then (if ((gQu_places v0) (ix s1)) = p1 then (some (Sum.inl 1)) else (ih (s1 + 1))) else none)))
noncomputable def f_Qu_hasPostAt (v0 : tQu) (p1 : Int32) : Option (Int32) := (Option.bind (lp (fB_Qu_hasPostAt_2 v0 p1) LF 0) (fun (q2 : (Int32) ⊕ (Int32)) => Sum.elim (fun r => (some r)) (fun (s1e : Int32) => (some 0)) q2))
abbrev rm_Qu_hasPostAt : Room := { frames := 0, cells := 0, slots := 0, locals := 0 }
set_option maxHeartbeats 4000000 in
set_option maxRecDepth 100000 in
theorem c_Qu_hasPostAt (l : Launch) (g : zGl) (a0 : Nat → Nat) (o0 : Nat) (v0 : tQu) (p1 : Int32) (out : Int32) (hf : f_Qu_hasPostAt v0 p1 = some out) : zMz l yX4_hasPostAt cX4_hasPostAt 3 rm_Qu_hasPostAt g [.ref (a0 o0), .int p1] (W_Qu g a0 o0 (gQu_ints v0) (gQu_places v0) (gQu_strengths v0)) out (W_Qu g a0 o0 (gQu_ints v0) (gQu_places v0) (gQu_strengths v0)) := by
  refine zMz_of (lv := [(0, .ref (a0 o0)), (1, .int p1)]) (by decide) (Nat.le_of_ble_eq_true rfl) rfl (fun x hl hg C hret => ?_)
  subst hl; subst hg
  rw [f_Qu_hasPostAt] at hf
  refine r_iconst C (v := 0) eX4_hasPostAt_0 (by decide) ?_
  refine r_istore_n C [(2, .int 0), (0, .ref (a0 o0)), (1, .int p1)] eX4_hasPostAt_1 rfl (by decide) rfl ?_
  obtain ⟨q2, h3, hf⟩ := zbind hf
  have J4 : ∀ s1e : Int32, q2 = Sum.inr s1e → vV x 3 0 0 (W_Qu (z_g x) a0 o0 (gQu_ints v0) (gQu_places v0) (gQu_strengths v0)) 34 [] [] := by
    intro s1e hs
    subst hs
    rw [Sum.elim_inr] at hf
    refine r_iconst C (v := 0) eX4_hasPostAt_34 (by decide) ?_
    obtain rfl := Option.some.inj (show some (0 : Int32) = some _ from hf)
    exact hret _ _ _ eX4_hasPostAt_35 zB0
  have L5 : ∀ (nL5 : Nat) (s1 : Int32), lp (fB_Qu_hasPostAt_2 v0 p1) nL5 s1 = some q2 → vV x 3 0 0 (W_Qu (z_g x) a0 o0 (gQu_ints v0) (gQu_places v0) (gQu_strengths v0)) 2 [(0, .ref (a0 o0)), (1, .int p1), (2, .int s1)] [] := by
    intro nL5
    induction nL5 with
    | zero => intro s1 hq; cases hq
    | succ nL5 ihL5 =>
      intro s1 hbL5
      rw [lp_succ, fB_Qu_hasPostAt_2] at hbL5
      refine r_iload_n C eX4_hasPostAt_2 2 rfl rfl ?_
      refine r_aload_n C eX4_hasPostAt_3 0 rfl rfl ?_
      refine r_get (v := .int ((gQu_ints v0) 13)) C eX4_hasPostAt_4 FX4_23 0 rfl rfl ?_
      refine r_icmp_ge C eX4_hasPostAt_7 (fun c6 => ?_) (fun c6 => ?_)
      · rw [if_pos c6] at hbL5
        obtain rfl := Option.some.inj hbL5
        refine r_sub (lv' := []) [] rfl ?_
        exact J4 _ rfl
      · rw [if_neg c6] at hbL5
        refine r_iload_n C eX4_hasPostAt_10 2 rfl rfl ?_
        refine r_bipush C (v := 12) eX4_hasPostAt_11 (by decide) ?_
        refine r_icmp_ge C eX4_hasPostAt_13 (fun c7 => ?_) (fun c7 => ?_)
        · rw [if_pos c7] at hbL5
          obtain rfl := Option.some.inj hbL5
          refine r_sub (lv' := []) [] rfl ?_
          exact J4 _ rfl
        · rw [if_neg c7] at hbL5
          refine r_aload_n C eX4_hasPostAt_16 0 rfl rfl ?_
          refine r_get (v := .ref (a0 (o0 + 1))) C eX4_hasPostAt_17 FX4_9 0 rfl rfl ?_
          refine r_iload_n C eX4_hasPostAt_20 2 rfl rfl ?_
          obtain ⟨hb8, hbL5⟩ := zchk hbL5
          refine r_iald C eX4_hasPostAt_21 1 rfl (inb_in hb8) ((gQu_places v0) (ix s1)) rfl ?_
          refine r_iload_n C eX4_hasPostAt_22 1 rfl rfl ?_
          refine r_icmp_ne C eX4_hasPostAt_23 (fun c9 => ?_) (fun c9 => ?_)
          · rw [if_neg c9] at hbL5
            refine r_iinc C (v := (s1 + 1)) [(2, .int (s1 + 1)), (0, .ref (a0 o0)), (1, .int p1)] eX4_hasPostAt_28 2 rfl rfl (by decide) rfl ?_
            refine r_goto C eX4_hasPostAt_31 ?_
            refine r_sub (lv' := [(0, .ref (a0 o0)), (1, .int p1), (2, .int (s1 + 1))]) [1, 2, 0] rfl ?_
            have hc := ihL5 (s1 + 1) hbL5
            exact hc
          · rw [if_pos c9] at hbL5
            refine r_iconst C (v := 1) eX4_hasPostAt_26 (by decide) ?_
            obtain rfl := Option.some.inj (show some (Sum.inl (1 : Int32)) = some _ from hbL5)
            obtain rfl := Option.some.inj (show some (1 : Int32) = some _ from hf)
            exact hret _ _ _ eX4_hasPostAt_27 zB1
  refine r_sub (lv' := [(0, .ref (a0 o0)), (1, .int p1), (2, .int 0)]) [1, 2, 0] rfl ?_
  have hc := L5 LF 0 h3
  exact hc
theorem eX4_postPlace_0 : zd 1 cX4_postPlace 0 1 (.iload_n 1) := ⟨by decide +kernel, rfl⟩
theorem eX4_postPlace_1 : zdi cX4_postPlace 1 4 27 (.ifCond .lt) := ⟨26, by decide +kernel, rfl, by decide⟩
theorem eX4_postPlace_4 : zd 1 cX4_postPlace 4 5 (.iload_n 1) := ⟨by decide +kernel, rfl⟩
theorem eX4_postPlace_5 : zd 1 cX4_postPlace 5 6 (.aload_n 0) := ⟨by decide +kernel, rfl⟩
theorem eX4_postPlace_6 : zd 3 cX4_postPlace 6 9 (.getfield 23) := ⟨by decide +kernel, rfl⟩
theorem eX4_postPlace_9 : zdi cX4_postPlace 9 12 27 (.if_icmp .ge) := ⟨18, by decide +kernel, rfl, by decide⟩
theorem eX4_postPlace_12 : zd 1 cX4_postPlace 12 13 (.iload_n 1) := ⟨by decide +kernel, rfl⟩
theorem eX4_postPlace_13 : zd 2 cX4_postPlace 13 15 (.bipush 12) := ⟨by decide +kernel, rfl⟩
theorem eX4_postPlace_15 : zdi cX4_postPlace 15 18 27 (.if_icmp .ge) := ⟨12, by decide +kernel, rfl, by decide⟩
theorem eX4_postPlace_18 : zd 1 cX4_postPlace 18 19 (.aload_n 0) := ⟨by decide +kernel, rfl⟩
theorem eX4_postPlace_19 : zd 3 cX4_postPlace 19 22 (.getfield 9) := ⟨by decide +kernel, rfl⟩
theorem eX4_postPlace_22 : zd 1 cX4_postPlace 22 23 (.iload_n 1) := ⟨by decide +kernel, rfl⟩
theorem eX4_postPlace_23 : zd 1 cX4_postPlace 23 24 (.iaload) := ⟨by decide +kernel, rfl⟩
theorem eX4_postPlace_24 : zdi cX4_postPlace 24 27 28 (.goto) := ⟨4, by decide +kernel, rfl, by decide⟩
theorem eX4_postPlace_27 : zd 1 cX4_postPlace 27 28 (.iconst 0) := ⟨by decide +kernel, rfl⟩
theorem eX4_postPlace_28 : zd 1 cX4_postPlace 28 29 (.ireturn) := ⟨by decide +kernel, rfl⟩
noncomputable def f_Qu_postPlace (v0 : tQu) (p1 : Int32) : Option (Int32) := (if p1 < 0 then (some 0) else (if ((gQu_ints v0) 13) ≤ p1 then (some 0) else (if 12 ≤ p1 then (some 0) else (if inb p1 12 = true then (some ((gQu_places v0) (ix p1))) else none))))
abbrev rm_Qu_postPlace : Room := { frames := 0, cells := 0, slots := 0, locals := 0 }
set_option maxHeartbeats 4000000 in
set_option maxRecDepth 100000 in
theorem c_Qu_postPlace (l : Launch) (g : zGl) (a0 : Nat → Nat) (o0 : Nat) (v0 : tQu) (p1 : Int32) (out : Int32) (hf : f_Qu_postPlace v0 p1 = some out) : zMi l yX4_postPlace cX4_postPlace 2 rm_Qu_postPlace g [.ref (a0 o0), .int p1] (W_Qu g a0 o0 (gQu_ints v0) (gQu_places v0) (gQu_strengths v0)) out (W_Qu g a0 o0 (gQu_ints v0) (gQu_places v0) (gQu_strengths v0)) := by
  refine zMi_of (lv := [(0, .ref (a0 o0)), (1, .int p1)]) (by decide) (Nat.le_of_ble_eq_true rfl) rfl (fun x hl hg C hret => ?_)
  subst hl; subst hg
  rw [f_Qu_postPlace] at hf
  refine r_iload_n C eX4_postPlace_0 1 rfl rfl ?_
  refine r_if_lt C eX4_postPlace_1 (fun c1 => ?_) (fun c1 => ?_)
  · rw [if_pos c1] at hf
    refine r_iconst C (v := 0) eX4_postPlace_27 (by decide) ?_
    obtain rfl := Option.some.inj (show some (0 : Int32) = some _ from hf)
    exact hret _ _ _ eX4_postPlace_28
  · rw [if_neg c1] at hf
    refine r_iload_n C eX4_postPlace_4 1 rfl rfl ?_
    refine r_aload_n C eX4_postPlace_5 0 rfl rfl ?_
    refine r_get (v := .int ((gQu_ints v0) 13)) C eX4_postPlace_6 FX4_23 0 rfl rfl ?_
    refine r_icmp_ge C eX4_postPlace_9 (fun c2 => ?_) (fun c2 => ?_)
    · rw [if_pos c2] at hf
      refine r_iconst C (v := 0) eX4_postPlace_27 (by decide) ?_
      obtain rfl := Option.some.inj (show some (0 : Int32) = some _ from hf)
      exact hret _ _ _ eX4_postPlace_28
    · rw [if_neg c2] at hf
      refine r_iload_n C eX4_postPlace_12 1 rfl rfl ?_
      refine r_bipush C (v := 12) eX4_postPlace_13 (by decide) ?_
      refine r_icmp_ge C eX4_postPlace_15 (fun c3 => ?_) (fun c3 => ?_)
      · rw [if_pos c3] at hf
        refine r_iconst C (v := 0) eX4_postPlace_27 (by decide) ?_
        obtain rfl := Option.some.inj (show some (0 : Int32) = some _ from hf)
        exact hret _ _ _ eX4_postPlace_28
      · rw [if_neg c3] at hf
        refine r_aload_n C eX4_postPlace_18 0 rfl rfl ?_
        refine r_get (v := .ref (a0 (o0 + 1))) C eX4_postPlace_19 FX4_9 0 rfl rfl ?_
        refine r_iload_n C eX4_postPlace_22 1 rfl rfl ?_
        obtain ⟨hb4, hf⟩ := zchk hf
        refine r_iald C eX4_postPlace_23 1 rfl (inb_in hb4) ((gQu_places v0) (ix p1)) rfl ?_
        refine r_goto C eX4_postPlace_24 ?_
        obtain rfl := Option.some.inj (show some (((gQu_places v0) (ix p1)) : Int32) = some _ from hf)
        exact hret _ _ _ eX4_postPlace_28
theorem eX4_postStrength_0 : zd 1 cX4_postStrength 0 1 (.iload_n 1) := ⟨by decide +kernel, rfl⟩
theorem eX4_postStrength_1 : zdi cX4_postStrength 1 4 27 (.ifCond .lt) := ⟨26, by decide +kernel, rfl, by decide⟩
theorem eX4_postStrength_4 : zd 1 cX4_postStrength 4 5 (.iload_n 1) := ⟨by decide +kernel, rfl⟩
theorem eX4_postStrength_5 : zd 1 cX4_postStrength 5 6 (.aload_n 0) := ⟨by decide +kernel, rfl⟩
theorem eX4_postStrength_6 : zd 3 cX4_postStrength 6 9 (.getfield 23) := ⟨by decide +kernel, rfl⟩
theorem eX4_postStrength_9 : zdi cX4_postStrength 9 12 27 (.if_icmp .ge) := ⟨18, by decide +kernel, rfl, by decide⟩
theorem eX4_postStrength_12 : zd 1 cX4_postStrength 12 13 (.iload_n 1) := ⟨by decide +kernel, rfl⟩
theorem eX4_postStrength_13 : zd 2 cX4_postStrength 13 15 (.bipush 12) := ⟨by decide +kernel, rfl⟩
theorem eX4_postStrength_15 : zdi cX4_postStrength 15 18 27 (.if_icmp .ge) := ⟨12, by decide +kernel, rfl, by decide⟩
theorem eX4_postStrength_18 : zd 1 cX4_postStrength 18 19 (.aload_n 0) := ⟨by decide +kernel, rfl⟩
theorem eX4_postStrength_19 : zd 3 cX4_postStrength 19 22 (.getfield 13) := ⟨by decide +kernel, rfl⟩
theorem eX4_postStrength_22 : zd 1 cX4_postStrength 22 23 (.iload_n 1) := ⟨by decide +kernel, rfl⟩
theorem eX4_postStrength_23 : zd 1 cX4_postStrength 23 24 (.iaload) := ⟨by decide +kernel, rfl⟩
theorem eX4_postStrength_24 : zdi cX4_postStrength 24 27 28 (.goto) := ⟨4, by decide +kernel, rfl, by decide⟩
theorem eX4_postStrength_27 : zd 1 cX4_postStrength 27 28 (.iconst 0) := ⟨by decide +kernel, rfl⟩
theorem eX4_postStrength_28 : zd 1 cX4_postStrength 28 29 (.ireturn) := ⟨by decide +kernel, rfl⟩
noncomputable def f_Qu_postStrength (v0 : tQu) (p1 : Int32) : Option (Int32) := (if p1 < 0 then (some 0) else (if ((gQu_ints v0) 13) ≤ p1 then (some 0) else (if 12 ≤ p1 then (some 0) else (if inb p1 12 = true then (some ((gQu_strengths v0) (ix p1))) else none))))
abbrev rm_Qu_postStrength : Room := { frames := 0, cells := 0, slots := 0, locals := 0 }
set_option maxHeartbeats 4000000 in
set_option maxRecDepth 100000 in
theorem c_Qu_postStrength (l : Launch) (g : zGl) (a0 : Nat → Nat) (o0 : Nat) (v0 : tQu) (p1 : Int32) (out : Int32) (hf : f_Qu_postStrength v0 p1 = some out) : zMi l yX4_postStrength cX4_postStrength 2 rm_Qu_postStrength g [.ref (a0 o0), .int p1] (W_Qu g a0 o0 (gQu_ints v0) (gQu_places v0) (gQu_strengths v0)) out (W_Qu g a0 o0 (gQu_ints v0) (gQu_places v0) (gQu_strengths v0)) := by
  refine zMi_of (lv := [(0, .ref (a0 o0)), (1, .int p1)]) (by decide) (Nat.le_of_ble_eq_true rfl) rfl (fun x hl hg C hret => ?_)
  subst hl; subst hg
  rw [f_Qu_postStrength] at hf
  refine r_iload_n C eX4_postStrength_0 1 rfl rfl ?_
  refine r_if_lt C eX4_postStrength_1 (fun c1 => ?_) (fun c1 => ?_)
  · rw [if_pos c1] at hf
    refine r_iconst C (v := 0) eX4_postStrength_27 (by decide) ?_
    obtain rfl := Option.some.inj (show some (0 : Int32) = some _ from hf)
    exact hret _ _ _ eX4_postStrength_28
  · rw [if_neg c1] at hf
    refine r_iload_n C eX4_postStrength_4 1 rfl rfl ?_
    refine r_aload_n C eX4_postStrength_5 0 rfl rfl ?_
    refine r_get (v := .int ((gQu_ints v0) 13)) C eX4_postStrength_6 FX4_23 0 rfl rfl ?_
    refine r_icmp_ge C eX4_postStrength_9 (fun c2 => ?_) (fun c2 => ?_)
    · rw [if_pos c2] at hf
      refine r_iconst C (v := 0) eX4_postStrength_27 (by decide) ?_
      obtain rfl := Option.some.inj (show some (0 : Int32) = some _ from hf)
      exact hret _ _ _ eX4_postStrength_28
    · rw [if_neg c2] at hf
      refine r_iload_n C eX4_postStrength_12 1 rfl rfl ?_
      refine r_bipush C (v := 12) eX4_postStrength_13 (by decide) ?_
      refine r_icmp_ge C eX4_postStrength_15 (fun c3 => ?_) (fun c3 => ?_)
      · rw [if_pos c3] at hf
        refine r_iconst C (v := 0) eX4_postStrength_27 (by decide) ?_
        obtain rfl := Option.some.inj (show some (0 : Int32) = some _ from hf)
        exact hret _ _ _ eX4_postStrength_28
      · rw [if_neg c3] at hf
        refine r_aload_n C eX4_postStrength_18 0 rfl rfl ?_
        refine r_get (v := .ref (a0 (o0 + 2))) C eX4_postStrength_19 FX4_13 0 rfl rfl ?_
        refine r_iload_n C eX4_postStrength_22 1 rfl rfl ?_
        obtain ⟨hb4, hf⟩ := zchk hf
        refine r_iald C eX4_postStrength_23 2 rfl (inb_in hb4) ((gQu_strengths v0) (ix p1)) rfl ?_
        refine r_goto C eX4_postStrength_24 ?_
        obtain rfl := Option.some.inj (show some (((gQu_strengths v0) (ix p1)) : Int32) = some _ from hf)
        exact hret _ _ _ eX4_postStrength_28
