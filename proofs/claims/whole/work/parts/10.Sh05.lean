theorem eX7_lineDistance_0 : zd 1 cX7_lineDistance 0 1 (.aload_n 0) := ⟨by decide +kernel, rfl⟩
theorem eX7_lineDistance_1 : zd 3 cX7_lineDistance 1 4 (.getfield 10) := ⟨by decide +kernel, rfl⟩
theorem eX7_lineDistance_4 : zd 1 cX7_lineDistance 4 5 (.iload_n 2) := ⟨by decide +kernel, rfl⟩
theorem eX7_lineDistance_5 : zd 3 cX7_lineDistance 5 8 (.invokevirtual 119) := ⟨by decide +kernel, rfl⟩
theorem eX7_lineDistance_8 : zdi cX7_lineDistance 8 11 37 (.ifCond .eq) := ⟨29, by decide +kernel, rfl, by decide⟩
theorem eX7_lineDistance_11 : zd 1 cX7_lineDistance 11 12 (.aload_n 0) := ⟨by decide +kernel, rfl⟩
theorem eX7_lineDistance_12 : zd 1 cX7_lineDistance 12 13 (.aload_n 1) := ⟨by decide +kernel, rfl⟩
theorem eX7_lineDistance_13 : zd 1 cX7_lineDistance 13 14 (.aload_n 0) := ⟨by decide +kernel, rfl⟩
theorem eX7_lineDistance_14 : zd 3 cX7_lineDistance 14 17 (.getfield 10) := ⟨by decide +kernel, rfl⟩
theorem eX7_lineDistance_17 : zd 3 cX7_lineDistance 17 20 (.getfield 123) := ⟨by decide +kernel, rfl⟩
theorem eX7_lineDistance_20 : zd 1 cX7_lineDistance 20 21 (.iload_n 2) := ⟨by decide +kernel, rfl⟩
theorem eX7_lineDistance_21 : zd 1 cX7_lineDistance 21 22 (.iaload) := ⟨by decide +kernel, rfl⟩
theorem eX7_lineDistance_22 : zd 1 cX7_lineDistance 22 23 (.aload_n 0) := ⟨by decide +kernel, rfl⟩
theorem eX7_lineDistance_23 : zd 3 cX7_lineDistance 23 26 (.getfield 10) := ⟨by decide +kernel, rfl⟩
theorem eX7_lineDistance_26 : zd 3 cX7_lineDistance 26 29 (.getfield 126) := ⟨by decide +kernel, rfl⟩
theorem eX7_lineDistance_29 : zd 1 cX7_lineDistance 29 30 (.iload_n 2) := ⟨by decide +kernel, rfl⟩
theorem eX7_lineDistance_30 : zd 1 cX7_lineDistance 30 31 (.iaload) := ⟨by decide +kernel, rfl⟩
theorem eX7_lineDistance_31 : zd 3 cX7_lineDistance 31 34 (.invokevirtual 129) := ⟨by decide +kernel, rfl⟩
theorem eX7_lineDistance_34 : zdi cX7_lineDistance 34 37 38 (.goto) := ⟨4, by decide +kernel, rfl, by decide⟩
theorem eX7_lineDistance_37 : zd 1 cX7_lineDistance 37 38 (.iconst 0) := ⟨by decide +kernel, rfl⟩
theorem eX7_lineDistance_38 : zd 1 cX7_lineDistance 38 39 (.ireturn) := ⟨by decide +kernel, rfl⟩
noncomputable def f_Sh_lineDistance (v0 : tSh) (v1 : tQu) (p1 : Int32) : Option (Int32) := (Option.bind (f_Li_isFast (gSh_lines v0) p1) (fun (r1 : Int32) => (if r1 = 0 then (some 0) else (if inb p1 6 = true then (if inb p1 6 = true then (Option.bind (f_Sh_distance v0 v1 ((gLi_place (gSh_lines v0)) (ix p1)) ((gLi_post (gSh_lines v0)) (ix p1))) (fun (r6 : Int32) => (some r6))) else none) else none))))
abbrev rm_Sh_lineDistance : Room := { frames := 3, cells := 0, slots := 0, locals := 72 }
set_option maxHeartbeats 4000000 in
set_option maxRecDepth 100000 in
theorem c_Sh_lineDistance (l : Launch) (g : zGl) (a0 : Nat → Nat) (o0 : Nat) (v0 : tSh) (a1 : Nat → Nat) (o1 : Nat) (v1 : tQu) (p1 : Int32) (out : Int32) (hf : f_Sh_lineDistance v0 v1 p1 = some out) : zMi l yX7_lineDistance cX7_lineDistance 3 rm_Sh_lineDistance g [.ref (a0 o0), .ref (a1 o1), .int p1] (W_Sh g a0 o0 (gSh_ints v0) (gSh_harm v0) (gLi_fast (gSh_lines v0)) (gLi_place (gSh_lines v0)) (gLi_post (gSh_lines v0)) (gLi_length (gSh_lines v0)) ++ W_Qu g a1 o1 (gQu_ints v1) (gQu_places v1) (gQu_strengths v1)) out (W_Sh g a0 o0 (gSh_ints v0) (gSh_harm v0) (gLi_fast (gSh_lines v0)) (gLi_place (gSh_lines v0)) (gLi_post (gSh_lines v0)) (gLi_length (gSh_lines v0)) ++ W_Qu g a1 o1 (gQu_ints v1) (gQu_places v1) (gQu_strengths v1)) := by
  refine zMi_of (lv := [(0, .ref (a0 o0)), (1, .ref (a1 o1)), (2, .int p1)]) (by decide) (Nat.le_of_ble_eq_true rfl) rfl (fun x hl hg C hret => ?_)
  subst hl; subst hg
  rw [f_Sh_lineDistance] at hf
  refine r_aload_n C eX7_lineDistance_0 0 rfl rfl ?_
  refine r_get (v := .ref (a0 (o0 + 1))) C eX7_lineDistance_1 FX7_10 0 rfl rfl ?_
  refine r_iload_n C eX7_lineDistance_4 2 rfl rfl ?_
  obtain ⟨r1, hr1, hf⟩ := zbind hf
  refine r_V_z (ws' := W_Sh (z_g x) a0 o0 (gSh_ints v0) (gSh_harm v0) (gLi_fast (gSh_lines v0)) (gLi_place (gSh_lines v0)) (gLi_post (gSh_lines v0)) (gLi_length (gSh_lines v0)) ++ W_Qu (z_g x) a1 o1 (gQu_ints v1) (gQu_places v1) (gQu_strengths v1)) C (c_Li_isFast (z_l x) (z_g x) a0 (o0 + 1) (gSh_lines v0) p1 r1 hr1) eX7_lineDistance_5 MX7_119 ⟨0, 1, _, _, rfl, rfl, rfl⟩ [1, 2, 3, 4, 5] rfl rfl rfl rfl [0, 6, 7, 8] rfl ⟨rfl, rfl, rfl, rfl, trivial⟩ 9 rfl rfl rfl rfl rfl rfl (fun zb2 => ?_)
  refine r_if_eq C eX7_lineDistance_8 (fun c3 => ?_) (fun c3 => ?_)
  · rw [if_pos c3] at hf
    refine r_iconst C (v := 0) eX7_lineDistance_37 (by decide) ?_
    obtain rfl := Option.some.inj (show some (0 : Int32) = some _ from hf)
    exact hret _ _ _ eX7_lineDistance_38
  · rw [if_neg c3] at hf
    refine r_aload_n C eX7_lineDistance_11 0 rfl rfl ?_
    refine r_aload_n C eX7_lineDistance_12 1 rfl rfl ?_
    refine r_aload_n C eX7_lineDistance_13 0 rfl rfl ?_
    refine r_get (v := .ref (a0 (o0 + 1))) C eX7_lineDistance_14 FX7_10 0 rfl rfl ?_
    refine r_get (v := .ref (a0 ((o0 + 1) + 2))) C eX7_lineDistance_17 FX7_123 1 rfl rfl ?_
    refine r_iload_n C eX7_lineDistance_20 2 rfl rfl ?_
    obtain ⟨hb4, hf⟩ := zchk hf
    refine r_iald C eX7_lineDistance_21 3 rfl (inb_in hb4) ((gLi_place (gSh_lines v0)) (ix p1)) rfl ?_
    refine r_aload_n C eX7_lineDistance_22 0 rfl rfl ?_
    refine r_get (v := .ref (a0 (o0 + 1))) C eX7_lineDistance_23 FX7_10 0 rfl rfl ?_
    refine r_get (v := .ref (a0 ((o0 + 1) + 3))) C eX7_lineDistance_26 FX7_126 1 rfl rfl ?_
    refine r_iload_n C eX7_lineDistance_29 2 rfl rfl ?_
    obtain ⟨hb5, hf⟩ := zchk hf
    refine r_iald C eX7_lineDistance_30 4 rfl (inb_in hb5) ((gLi_post (gSh_lines v0)) (ix p1)) rfl ?_
    obtain ⟨r6, hr6, hf⟩ := zbind hf
    refine r_V_i (ws' := W_Sh (z_g x) a0 o0 (gSh_ints v0) (gSh_harm v0) (gLi_fast (gSh_lines v0)) (gLi_place (gSh_lines v0)) (gLi_post (gSh_lines v0)) (gLi_length (gSh_lines v0)) ++ W_Qu (z_g x) a1 o1 (gQu_ints v1) (gQu_places v1) (gQu_strengths v1)) C (c_Sh_distance (z_l x) (z_g x) a0 o0 v0 a1 o1 v1 ((gLi_place (gSh_lines v0)) (ix p1)) ((gLi_post (gSh_lines v0)) (ix p1)) r6 hr6) eX7_lineDistance_31 MX7_129 ⟨0, 7, _, _, rfl, rfl, rfl⟩ [0, 1, 2, 3, 4, 5, 6, 7, 8] rfl rfl rfl rfl [] rfl trivial 9 rfl rfl rfl rfl rfl rfl ?_
    refine r_goto C eX7_lineDistance_34 ?_
    obtain rfl := Option.some.inj (show some (r6 : Int32) = some _ from hf)
    exact hret _ _ _ eX7_lineDistance_38
theorem eX7_mayBePut_0 : zd 1 cX7_mayBePut 0 1 (.iload_n 0) := ⟨by decide +kernel, rfl⟩
theorem eX7_mayBePut_1 : zdi cX7_mayBePut 1 4 32 (.ifCond .lt) := ⟨31, by decide +kernel, rfl, by decide⟩
theorem eX7_mayBePut_4 : zd 1 cX7_mayBePut 4 5 (.iload_n 0) := ⟨by decide +kernel, rfl⟩
theorem eX7_mayBePut_5 : zd 2 cX7_mayBePut 5 7 (.bipush 9) := ⟨by decide +kernel, rfl⟩
theorem eX7_mayBePut_7 : zdi cX7_mayBePut 7 10 32 (.if_icmp .ge) := ⟨25, by decide +kernel, rfl, by decide⟩
theorem eX7_mayBePut_10 : zd 1 cX7_mayBePut 10 11 (.iload_n 1) := ⟨by decide +kernel, rfl⟩
theorem eX7_mayBePut_11 : zd 3 cX7_mayBePut 11 14 (.getstatic 16) := ⟨by decide +kernel, rfl⟩
theorem eX7_mayBePut_14 : zd 1 cX7_mayBePut 14 15 (.iload_n 0) := ⟨by decide +kernel, rfl⟩
theorem eX7_mayBePut_15 : zd 1 cX7_mayBePut 15 16 (.iaload) := ⟨by decide +kernel, rfl⟩
theorem eX7_mayBePut_16 : zdi cX7_mayBePut 16 19 32 (.if_icmp .lt) := ⟨16, by decide +kernel, rfl, by decide⟩
theorem eX7_mayBePut_19 : zd 1 cX7_mayBePut 19 20 (.iload_n 1) := ⟨by decide +kernel, rfl⟩
theorem eX7_mayBePut_20 : zd 3 cX7_mayBePut 20 23 (.getstatic 20) := ⟨by decide +kernel, rfl⟩
theorem eX7_mayBePut_23 : zd 1 cX7_mayBePut 23 24 (.iload_n 0) := ⟨by decide +kernel, rfl⟩
theorem eX7_mayBePut_24 : zd 1 cX7_mayBePut 24 25 (.iaload) := ⟨by decide +kernel, rfl⟩
theorem eX7_mayBePut_25 : zdi cX7_mayBePut 25 28 32 (.if_icmp .gt) := ⟨7, by decide +kernel, rfl, by decide⟩
theorem eX7_mayBePut_28 : zd 1 cX7_mayBePut 28 29 (.iconst 1) := ⟨by decide +kernel, rfl⟩
theorem eX7_mayBePut_29 : zdi cX7_mayBePut 29 32 33 (.goto) := ⟨4, by decide +kernel, rfl, by decide⟩
theorem eX7_mayBePut_32 : zd 1 cX7_mayBePut 32 33 (.iconst 0) := ⟨by decide +kernel, rfl⟩
theorem eX7_mayBePut_33 : zd 1 cX7_mayBePut 33 34 (.ireturn) := ⟨by decide +kernel, rfl⟩
noncomputable def f_Sh_mayBePut  (p1 : Int32) (p2 : Int32) : Option (Int32) := (if p1 < 0 then (some 0) else (if 9 ≤ p1 then (some 0) else (if inb p1 9 = true then (if p2 < (zT_PUT_LEAST.getD (ix p1) 0) then (some 0) else (if inb p1 9 = true then (if (zT_PUT_MOST.getD (ix p1) 0) < p2 then (some 0) else (some 1)) else none)) else none)))
abbrev rm_Sh_mayBePut : Room := { frames := 0, cells := 0, slots := 0, locals := 0 }
set_option maxHeartbeats 4000000 in
set_option maxRecDepth 100000 in
theorem c_Sh_mayBePut (l : Launch) (g : zGl)  (p1 : Int32) (p2 : Int32) (out : Int32) (hf : f_Sh_mayBePut p1 p2 = some out) : zMz l yX7_mayBePut cX7_mayBePut 2 rm_Sh_mayBePut g [.int p1, .int p2] ([]) out ([]) := by
  refine zMz_of (lv := [(0, .int p1), (1, .int p2)]) (by decide) (Nat.le_of_ble_eq_true rfl) rfl (fun x hl hg C hret => ?_)
  subst hl; subst hg
  rw [f_Sh_mayBePut] at hf
  refine r_iload_n C eX7_mayBePut_0 0 rfl rfl ?_
  refine r_if_lt C eX7_mayBePut_1 (fun c1 => ?_) (fun c1 => ?_)
  · rw [if_pos c1] at hf
    refine r_iconst C (v := 0) eX7_mayBePut_32 (by decide) ?_
    obtain rfl := Option.some.inj (show some (0 : Int32) = some _ from hf)
    exact hret _ _ _ eX7_mayBePut_33 zB0
  · rw [if_neg c1] at hf
    refine r_iload_n C eX7_mayBePut_4 0 rfl rfl ?_
    refine r_bipush C (v := 9) eX7_mayBePut_5 (by decide) ?_
    refine r_icmp_ge C eX7_mayBePut_7 (fun c2 => ?_) (fun c2 => ?_)
    · rw [if_pos c2] at hf
      refine r_iconst C (v := 0) eX7_mayBePut_32 (by decide) ?_
      obtain rfl := Option.some.inj (show some (0 : Int32) = some _ from hf)
      exact hret _ _ _ eX7_mayBePut_33 zB0
    · rw [if_neg c2] at hf
      refine r_iload_n C eX7_mayBePut_10 1 rfl rfl ?_
      refine r_stab C (f := zT_PUT_LEAST) eX7_mayBePut_11 (List.mem_of_getElem? (i := 1) rfl) q665 (fun tt3 hT4 => ?_)
      refine r_iload_n C eX7_mayBePut_14 0 rfl rfl ?_
      obtain ⟨hb5, hf⟩ := zchk hf
      refine r_tld C hT4 eX7_mayBePut_15 (inb_in hb5) ?_
      refine r_icmp_lt C eX7_mayBePut_16 (fun c6 => ?_) (fun c6 => ?_)
      · rw [if_pos c6] at hf
        refine r_iconst C (v := 0) eX7_mayBePut_32 (by decide) ?_
        obtain rfl := Option.some.inj (show some (0 : Int32) = some _ from hf)
        exact hret _ _ _ eX7_mayBePut_33 zB0
      · rw [if_neg c6] at hf
        refine r_iload_n C eX7_mayBePut_19 1 rfl rfl ?_
        refine r_stab C (f := zT_PUT_MOST) eX7_mayBePut_20 (List.mem_of_getElem? (i := 2) rfl) q667 (fun tt7 hT8 => ?_)
        refine r_iload_n C eX7_mayBePut_23 0 rfl rfl ?_
        obtain ⟨hb9, hf⟩ := zchk hf
        refine r_tld C hT8 eX7_mayBePut_24 (inb_in hb9) ?_
        refine r_icmp_gt C eX7_mayBePut_25 (fun c10 => ?_) (fun c10 => ?_)
        · rw [if_pos c10] at hf
          refine r_iconst C (v := 0) eX7_mayBePut_32 (by decide) ?_
          obtain rfl := Option.some.inj (show some (0 : Int32) = some _ from hf)
          exact hret _ _ _ eX7_mayBePut_33 zB0
        · rw [if_neg c10] at hf
          refine r_iconst C (v := 1) eX7_mayBePut_28 (by decide) ?_
          refine r_goto C eX7_mayBePut_29 ?_
          obtain rfl := Option.some.inj (show some (1 : Int32) = some _ from hf)
          exact hret _ _ _ eX7_mayBePut_33 zB1
theorem eX7_move_0 : zd 1 cX7_move 0 1 (.aload_n 0) := ⟨by decide +kernel, rfl⟩
theorem eX7_move_1 : zd 1 cX7_move 1 2 (.aload_n 0) := ⟨by decide +kernel, rfl⟩
theorem eX7_move_2 : zd 3 cX7_move 2 5 (.getfield 64) := ⟨by decide +kernel, rfl⟩
theorem eX7_move_5 : zd 1 cX7_move 5 6 (.aload_n 0) := ⟨by decide +kernel, rfl⟩
theorem eX7_move_6 : zd 3 cX7_move 6 9 (.getfield 190) := ⟨by decide +kernel, rfl⟩
theorem eX7_move_9 : zd 1 cX7_move 9 10 (.iadd) := ⟨by decide +kernel, rfl⟩
theorem eX7_move_10 : zd 2 cX7_move 10 12 (.ldc 223) := ⟨by decide +kernel, rfl⟩
theorem eX7_move_12 : zd 2 cX7_move 12 14 (.ldc 224) := ⟨by decide +kernel, rfl⟩
theorem eX7_move_14 : zd 3 cX7_move 14 17 (.invokestatic 225) := ⟨by decide +kernel, rfl⟩
theorem eX7_move_17 : zd 3 cX7_move 17 20 (.putfield 64) := ⟨by decide +kernel, rfl⟩
theorem eX7_move_20 : zd 1 cX7_move 20 21 (.aload_n 0) := ⟨by decide +kernel, rfl⟩
theorem eX7_move_21 : zd 1 cX7_move 21 22 (.aload_n 0) := ⟨by decide +kernel, rfl⟩
theorem eX7_move_22 : zd 3 cX7_move 22 25 (.getfield 67) := ⟨by decide +kernel, rfl⟩
theorem eX7_move_25 : zd 1 cX7_move 25 26 (.aload_n 0) := ⟨by decide +kernel, rfl⟩
theorem eX7_move_26 : zd 3 cX7_move 26 29 (.getfield 199) := ⟨by decide +kernel, rfl⟩
theorem eX7_move_29 : zd 1 cX7_move 29 30 (.iadd) := ⟨by decide +kernel, rfl⟩
theorem eX7_move_30 : zd 2 cX7_move 30 32 (.ldc 223) := ⟨by decide +kernel, rfl⟩
theorem eX7_move_32 : zd 2 cX7_move 32 34 (.ldc 224) := ⟨by decide +kernel, rfl⟩
theorem eX7_move_34 : zd 3 cX7_move 34 37 (.invokestatic 225) := ⟨by decide +kernel, rfl⟩
theorem eX7_move_37 : zd 3 cX7_move 37 40 (.putfield 67) := ⟨by decide +kernel, rfl⟩
theorem eX7_move_40 : zd 1 cX7_move 40 41 (.aload_n 0) := ⟨by decide +kernel, rfl⟩
theorem eX7_move_41 : zd 1 cX7_move 41 42 (.aload_n 0) := ⟨by decide +kernel, rfl⟩
theorem eX7_move_42 : zd 3 cX7_move 42 45 (.getfield 70) := ⟨by decide +kernel, rfl⟩
theorem eX7_move_45 : zd 1 cX7_move 45 46 (.aload_n 0) := ⟨by decide +kernel, rfl⟩
theorem eX7_move_46 : zd 3 cX7_move 46 49 (.getfield 208) := ⟨by decide +kernel, rfl⟩
theorem eX7_move_49 : zd 1 cX7_move 49 50 (.iadd) := ⟨by decide +kernel, rfl⟩
theorem eX7_move_50 : zd 3 cX7_move 50 53 (.sipush (-20000)) := ⟨by decide +kernel, rfl⟩
theorem eX7_move_53 : zd 3 cX7_move 53 56 (.sipush 20000) := ⟨by decide +kernel, rfl⟩
theorem eX7_move_56 : zd 3 cX7_move 56 59 (.invokestatic 225) := ⟨by decide +kernel, rfl⟩
theorem eX7_move_59 : zd 3 cX7_move 59 62 (.putfield 70) := ⟨by decide +kernel, rfl⟩
theorem eX7_move_62 : zd 1 cX7_move 62 63 (.aload_n 0) := ⟨by decide +kernel, rfl⟩
theorem eX7_move_63 : zd 1 cX7_move 63 64 (.dup) := ⟨by decide +kernel, rfl⟩
theorem eX7_move_64 : zd 3 cX7_move 64 67 (.getfield 27) := ⟨by decide +kernel, rfl⟩
theorem eX7_move_67 : zd 1 cX7_move 67 68 (.aload_n 0) := ⟨by decide +kernel, rfl⟩
theorem eX7_move_68 : zd 3 cX7_move 68 71 (.getfield 64) := ⟨by decide +kernel, rfl⟩
theorem eX7_move_71 : zd 2 cX7_move 71 73 (.bipush 100) := ⟨by decide +kernel, rfl⟩
theorem eX7_move_73 : zd 1 cX7_move 73 74 (.idiv) := ⟨by decide +kernel, rfl⟩
theorem eX7_move_74 : zd 1 cX7_move 74 75 (.iadd) := ⟨by decide +kernel, rfl⟩
theorem eX7_move_75 : zd 3 cX7_move 75 78 (.putfield 27) := ⟨by decide +kernel, rfl⟩
theorem eX7_move_78 : zd 1 cX7_move 78 79 (.aload_n 0) := ⟨by decide +kernel, rfl⟩
theorem eX7_move_79 : zd 1 cX7_move 79 80 (.dup) := ⟨by decide +kernel, rfl⟩
theorem eX7_move_80 : zd 3 cX7_move 80 83 (.getfield 31) := ⟨by decide +kernel, rfl⟩
theorem eX7_move_83 : zd 1 cX7_move 83 84 (.aload_n 0) := ⟨by decide +kernel, rfl⟩
theorem eX7_move_84 : zd 3 cX7_move 84 87 (.getfield 67) := ⟨by decide +kernel, rfl⟩
theorem eX7_move_87 : zd 2 cX7_move 87 89 (.bipush 100) := ⟨by decide +kernel, rfl⟩
theorem eX7_move_89 : zd 1 cX7_move 89 90 (.idiv) := ⟨by decide +kernel, rfl⟩
theorem eX7_move_90 : zd 1 cX7_move 90 91 (.isub) := ⟨by decide +kernel, rfl⟩
theorem eX7_move_91 : zd 3 cX7_move 91 94 (.putfield 31) := ⟨by decide +kernel, rfl⟩
theorem eX7_move_94 : zd 1 cX7_move 94 95 (.aload_n 0) := ⟨by decide +kernel, rfl⟩
theorem eX7_move_95 : zd 1 cX7_move 95 96 (.dup) := ⟨by decide +kernel, rfl⟩
theorem eX7_move_96 : zd 3 cX7_move 96 99 (.getfield 31) := ⟨by decide +kernel, rfl⟩
theorem eX7_move_99 : zd 1 cX7_move 99 100 (.aload_n 0) := ⟨by decide +kernel, rfl⟩
theorem eX7_move_100 : zd 3 cX7_move 100 103 (.getfield 64) := ⟨by decide +kernel, rfl⟩
theorem eX7_move_103 : zd 2 cX7_move 103 105 (.bipush 100) := ⟨by decide +kernel, rfl⟩
theorem eX7_move_105 : zd 1 cX7_move 105 106 (.idiv) := ⟨by decide +kernel, rfl⟩
theorem eX7_move_106 : zd 1 cX7_move 106 107 (.aload_n 0) := ⟨by decide +kernel, rfl⟩
theorem eX7_move_107 : zd 3 cX7_move 107 110 (.getfield 61) := ⟨by decide +kernel, rfl⟩
theorem eX7_move_110 : zd 1 cX7_move 110 111 (.imul) := ⟨by decide +kernel, rfl⟩
theorem eX7_move_111 : zd 2 cX7_move 111 113 (.ldc 86) := ⟨by decide +kernel, rfl⟩
theorem eX7_move_113 : zd 1 cX7_move 113 114 (.idiv) := ⟨by decide +kernel, rfl⟩
theorem eX7_move_114 : zd 1 cX7_move 114 115 (.isub) := ⟨by decide +kernel, rfl⟩
theorem eX7_move_115 : zd 3 cX7_move 115 118 (.putfield 31) := ⟨by decide +kernel, rfl⟩
theorem eX7_move_118 : zd 1 cX7_move 118 119 (.aload_n 0) := ⟨by decide +kernel, rfl⟩
theorem eX7_move_119 : zd 1 cX7_move 119 120 (.aload_n 0) := ⟨by decide +kernel, rfl⟩
theorem eX7_move_120 : zd 3 cX7_move 120 123 (.getfield 61) := ⟨by decide +kernel, rfl⟩
theorem eX7_move_123 : zd 1 cX7_move 123 124 (.aload_n 0) := ⟨by decide +kernel, rfl⟩
theorem eX7_move_124 : zd 3 cX7_move 124 127 (.getfield 70) := ⟨by decide +kernel, rfl⟩
theorem eX7_move_127 : zd 1 cX7_move 127 128 (.iadd) := ⟨by decide +kernel, rfl⟩
theorem eX7_move_128 : zd 2 cX7_move 128 130 (.ldc 229) := ⟨by decide +kernel, rfl⟩
theorem eX7_move_130 : zd 2 cX7_move 130 132 (.ldc 230) := ⟨by decide +kernel, rfl⟩
theorem eX7_move_132 : zd 3 cX7_move 132 135 (.invokestatic 225) := ⟨by decide +kernel, rfl⟩
theorem eX7_move_135 : zd 3 cX7_move 135 138 (.putfield 61) := ⟨by decide +kernel, rfl⟩
theorem eX7_move_138 : zd 1 cX7_move 138 139 (.aload_n 0) := ⟨by decide +kernel, rfl⟩
theorem eX7_move_139 : zd 1 cX7_move 139 140 (.dup) := ⟨by decide +kernel, rfl⟩
theorem eX7_move_140 : zd 3 cX7_move 140 143 (.getfield 34) := ⟨by decide +kernel, rfl⟩
theorem eX7_move_143 : zd 1 cX7_move 143 144 (.iconst 1) := ⟨by decide +kernel, rfl⟩
theorem eX7_move_144 : zd 1 cX7_move 144 145 (.iadd) := ⟨by decide +kernel, rfl⟩
theorem eX7_move_145 : zd 3 cX7_move 145 148 (.putfield 34) := ⟨by decide +kernel, rfl⟩
theorem eX7_move_148 : zd 1 cX7_move 148 149 (.return_) := ⟨by decide +kernel, rfl⟩
theorem MX7_225 : zlN RX7 225 yX10_held cX10_held 3 ((Option.some FieldType.int)) 3 := ⟨⟨_, qn750⟩, q751, q1, q752, by decide, by decide, by decide +kernel⟩
noncomputable def f_Sh_move (v0 : tSh)  : (Nat → Int32) := (zlet (f_AL_held (((gSh_ints v0) 3) + ((gSh_ints v0) 15)) (-50000) 50000) (fun (z1 : Int32) => (zlet (f_AL_held (((gSh_ints v0) 4) + ((gSh_ints v0) 16)) (-50000) 50000) (fun (z2 : Int32) => (zlet (f_AL_held (((gSh_ints v0) 5) + ((gSh_ints v0) 17)) (-20000) 20000) (fun (z3 : Int32) => (zlet (((gSh_ints v0) 0) + (z1 / 100)) (fun (z4 : Int32) => (zlet (((gSh_ints v0) 1) - (z2 / 100)) (fun (z5 : Int32) => (zlet (z5 - (((z1 / 100) * ((gSh_ints v0) 2)) / 57296)) (fun (z6 : Int32) => (zlet (f_AL_held (((gSh_ints v0) 2) + z3) (-45000) 45000) (fun (z7 : Int32) => (zlet (((gSh_ints v0) 9) + 1) (fun (z8 : Int32) => (upd (upd (upd (upd (upd (upd (upd (gSh_ints v0) 3 z1) 4 z2) 5 z3) 0 z4) 1 z6) 2 z7) 9 z8)))))))))))))))))
abbrev rm_Sh_move : Room := { frames := 2, cells := 0, slots := 0, locals := 43 }
set_option maxHeartbeats 4000000 in
set_option maxRecDepth 100000 in
theorem c_Sh_move (l : Launch) (g : zGl) (a0 : Nat → Nat) (o0 : Nat) (v0 : tSh)  (out : (Nat → Int32)) (hf : f_Sh_move v0 = out) : zMv l yX7_move cX7_move 1 rm_Sh_move g [.ref (a0 o0)] (W_Sh g a0 o0 (gSh_ints v0) (gSh_harm v0) (gLi_fast (gSh_lines v0)) (gLi_place (gSh_lines v0)) (gLi_post (gSh_lines v0)) (gLi_length (gSh_lines v0)))  (W_Sh g a0 o0 out (gSh_harm v0) (gLi_fast (gSh_lines v0)) (gLi_place (gSh_lines v0)) (gLi_post (gSh_lines v0)) (gLi_length (gSh_lines v0))) := by
  refine zMv_of (lv := [(0, .ref (a0 o0))]) (by decide) (Nat.le_of_ble_eq_true rfl) rfl (fun x hl hg C hret => ?_)
  subst hl; subst hg
  rw [f_Sh_move] at hf
  refine r_aload_n C eX7_move_0 0 rfl rfl ?_
  refine r_aload_n C eX7_move_1 0 rfl rfl ?_
  refine r_get (v := .int ((gSh_ints v0) 3)) C eX7_move_2 FX7_64 0 rfl rfl ?_
  refine r_aload_n C eX7_move_5 0 rfl rfl ?_
  refine r_get (v := .int ((gSh_ints v0) 15)) C eX7_move_6 FX7_190 0 rfl rfl ?_
  refine r_iadd C eX7_move_9 ?_
  refine r_ldc C (v := (-50000)) eX7_move_10 q748 ?_
  refine r_ldc C (v := 50000) eX7_move_12 q749 ?_
  refine r_N_i (ws' := W_Sh (z_g x) a0 o0 (gSh_ints v0) (gSh_harm v0) (gLi_fast (gSh_lines v0)) (gLi_place (gSh_lines v0)) (gLi_post (gSh_lines v0)) (gLi_length (gSh_lines v0))) C (c_AL_held (z_l x) (z_g x)  (((gSh_ints v0) 3) + ((gSh_ints v0) 15)) (-50000) 50000 _ rfl) eX7_move_14 MX7_225 [] rfl rfl rfl rfl [0, 1, 2, 3, 4, 5] rfl ⟨rfl, rfl, rfl, rfl, rfl, rfl, trivial⟩ 6 rfl rfl rfl rfl rfl rfl ?_
  obtain ⟨z1, hz1, hf⟩ := zlet_of hf
  refine r_nami hz1 ?_
  refine r_put (ws' := W_Sh (z_g x) a0 o0 (upd (gSh_ints v0) 3 z1) (gSh_harm v0) (gLi_fast (gSh_lines v0)) (gLi_place (gSh_lines v0)) (gLi_post (gSh_lines v0)) (gLi_length (gSh_lines v0))) C eX7_move_17 PX7_64 0 rfl rfl rfl (Nat.le_of_ble_eq_true rfl) rfl ?_
  refine r_aload_n C eX7_move_20 0 rfl rfl ?_
  refine r_aload_n C eX7_move_21 0 rfl rfl ?_
  refine r_get (v := .int ((gSh_ints v0) 4)) C eX7_move_22 FX7_67 0 rfl rfl ?_
  refine r_aload_n C eX7_move_25 0 rfl rfl ?_
  refine r_get (v := .int ((gSh_ints v0) 16)) C eX7_move_26 FX7_199 0 rfl rfl ?_
  refine r_iadd C eX7_move_29 ?_
  refine r_ldc C (v := (-50000)) eX7_move_30 q748 ?_
  refine r_ldc C (v := 50000) eX7_move_32 q749 ?_
  refine r_N_i (ws' := W_Sh (z_g x) a0 o0 (upd (gSh_ints v0) 3 z1) (gSh_harm v0) (gLi_fast (gSh_lines v0)) (gLi_place (gSh_lines v0)) (gLi_post (gSh_lines v0)) (gLi_length (gSh_lines v0))) C (c_AL_held (z_l x) (z_g x)  (((gSh_ints v0) 4) + ((gSh_ints v0) 16)) (-50000) 50000 _ rfl) eX7_move_34 MX7_225 [] rfl rfl rfl rfl [0, 1, 2, 3, 4, 5] rfl ⟨rfl, rfl, rfl, rfl, rfl, rfl, trivial⟩ 6 rfl rfl rfl rfl rfl rfl ?_
  obtain ⟨z2, hz2, hf⟩ := zlet_of hf
  refine r_nami hz2 ?_
  refine r_put (ws' := W_Sh (z_g x) a0 o0 (upd (upd (gSh_ints v0) 3 z1) 4 z2) (gSh_harm v0) (gLi_fast (gSh_lines v0)) (gLi_place (gSh_lines v0)) (gLi_post (gSh_lines v0)) (gLi_length (gSh_lines v0))) C eX7_move_37 PX7_67 0 rfl rfl rfl (Nat.le_of_ble_eq_true rfl) rfl ?_
  refine r_aload_n C eX7_move_40 0 rfl rfl ?_
  refine r_aload_n C eX7_move_41 0 rfl rfl ?_
  refine r_get (v := .int ((gSh_ints v0) 5)) C eX7_move_42 FX7_70 0 rfl rfl ?_
  refine r_aload_n C eX7_move_45 0 rfl rfl ?_
  refine r_get (v := .int ((gSh_ints v0) 17)) C eX7_move_46 FX7_208 0 rfl rfl ?_
  refine r_iadd C eX7_move_49 ?_
  refine r_sipush C (v := (-20000)) eX7_move_50 (by decide) ?_
  refine r_sipush C (v := 20000) eX7_move_53 (by decide) ?_
  refine r_N_i (ws' := W_Sh (z_g x) a0 o0 (upd (upd (gSh_ints v0) 3 z1) 4 z2) (gSh_harm v0) (gLi_fast (gSh_lines v0)) (gLi_place (gSh_lines v0)) (gLi_post (gSh_lines v0)) (gLi_length (gSh_lines v0))) C (c_AL_held (z_l x) (z_g x)  (((gSh_ints v0) 5) + ((gSh_ints v0) 17)) (-20000) 20000 _ rfl) eX7_move_56 MX7_225 [] rfl rfl rfl rfl [0, 1, 2, 3, 4, 5] rfl ⟨rfl, rfl, rfl, rfl, rfl, rfl, trivial⟩ 6 rfl rfl rfl rfl rfl rfl ?_
  obtain ⟨z3, hz3, hf⟩ := zlet_of hf
  refine r_nami hz3 ?_
  refine r_put (ws' := W_Sh (z_g x) a0 o0 (upd (upd (upd (gSh_ints v0) 3 z1) 4 z2) 5 z3) (gSh_harm v0) (gLi_fast (gSh_lines v0)) (gLi_place (gSh_lines v0)) (gLi_post (gSh_lines v0)) (gLi_length (gSh_lines v0))) C eX7_move_59 PX7_70 0 rfl rfl rfl (Nat.le_of_ble_eq_true rfl) rfl ?_
  refine r_aload_n C eX7_move_62 0 rfl rfl ?_
  refine r_dup C eX7_move_63 rfl ?_
  refine r_get (v := .int ((gSh_ints v0) 0)) C eX7_move_64 FX7_27 0 rfl rfl ?_
  refine r_aload_n C eX7_move_67 0 rfl rfl ?_
  refine r_get (v := .int z1) C eX7_move_68 FX7_64 0 rfl rfl ?_
  refine r_bipush C (v := 100) eX7_move_71 (by decide) ?_
  refine r_idiv C eX7_move_73 (by decide) ?_
  refine r_iadd C eX7_move_74 ?_
  obtain ⟨z4, hz4, hf⟩ := zlet_of hf
  refine r_nami hz4 ?_
  refine r_put (ws' := W_Sh (z_g x) a0 o0 (upd (upd (upd (upd (gSh_ints v0) 3 z1) 4 z2) 5 z3) 0 z4) (gSh_harm v0) (gLi_fast (gSh_lines v0)) (gLi_place (gSh_lines v0)) (gLi_post (gSh_lines v0)) (gLi_length (gSh_lines v0))) C eX7_move_75 PX7_27 0 rfl rfl rfl (Nat.le_of_ble_eq_true rfl) rfl ?_
  refine r_aload_n C eX7_move_78 0 rfl rfl ?_
  refine r_dup C eX7_move_79 rfl ?_
  refine r_get (v := .int ((gSh_ints v0) 1)) C eX7_move_80 FX7_31 0 rfl rfl ?_
  refine r_aload_n C eX7_move_83 0 rfl rfl ?_
  refine r_get (v := .int z2) C eX7_move_84 FX7_67 0 rfl rfl ?_
  refine r_bipush C (v := 100) eX7_move_87 (by decide) ?_
  refine r_idiv C eX7_move_89 (by decide) ?_
  refine r_isub C eX7_move_90 ?_
  obtain ⟨z5, hz5, hf⟩ := zlet_of hf
  refine r_nami hz5 ?_
  refine r_put (ws' := W_Sh (z_g x) a0 o0 (upd (upd (upd (upd (upd (gSh_ints v0) 3 z1) 4 z2) 5 z3) 0 z4) 1 z5) (gSh_harm v0) (gLi_fast (gSh_lines v0)) (gLi_place (gSh_lines v0)) (gLi_post (gSh_lines v0)) (gLi_length (gSh_lines v0))) C eX7_move_91 PX7_31 0 rfl rfl rfl (Nat.le_of_ble_eq_true rfl) rfl ?_
  refine r_aload_n C eX7_move_94 0 rfl rfl ?_
  refine r_dup C eX7_move_95 rfl ?_
  refine r_get (v := .int z5) C eX7_move_96 FX7_31 0 rfl rfl ?_
  refine r_aload_n C eX7_move_99 0 rfl rfl ?_
  refine r_get (v := .int z1) C eX7_move_100 FX7_64 0 rfl rfl ?_
  refine r_bipush C (v := 100) eX7_move_103 (by decide) ?_
  refine r_idiv C eX7_move_105 (by decide) ?_
  refine r_aload_n C eX7_move_106 0 rfl rfl ?_
  refine r_get (v := .int ((gSh_ints v0) 2)) C eX7_move_107 FX7_61 0 rfl rfl ?_
  refine r_imul C eX7_move_110 ?_
  refine r_ldc C (v := 57296) eX7_move_111 q699 ?_
  refine r_idiv C eX7_move_113 (by decide) ?_
  refine r_isub C eX7_move_114 ?_
  obtain ⟨z6, hz6, hf⟩ := zlet_of hf
  refine r_nami hz6 ?_
  refine r_put (ws' := W_Sh (z_g x) a0 o0 (upd (upd (upd (upd (upd (gSh_ints v0) 3 z1) 4 z2) 5 z3) 0 z4) 1 z6) (gSh_harm v0) (gLi_fast (gSh_lines v0)) (gLi_place (gSh_lines v0)) (gLi_post (gSh_lines v0)) (gLi_length (gSh_lines v0))) C eX7_move_115 PX7_31 0 rfl rfl rfl (Nat.le_of_ble_eq_true rfl) rfl ?_
  refine r_aload_n C eX7_move_118 0 rfl rfl ?_
  refine r_aload_n C eX7_move_119 0 rfl rfl ?_
  refine r_get (v := .int ((gSh_ints v0) 2)) C eX7_move_120 FX7_61 0 rfl rfl ?_
  refine r_aload_n C eX7_move_123 0 rfl rfl ?_
  refine r_get (v := .int z3) C eX7_move_124 FX7_70 0 rfl rfl ?_
  refine r_iadd C eX7_move_127 ?_
  refine r_ldc C (v := (-45000)) eX7_move_128 q757 ?_
  refine r_ldc C (v := 45000) eX7_move_130 q758 ?_
  refine r_N_i (ws' := W_Sh (z_g x) a0 o0 (upd (upd (upd (upd (upd (gSh_ints v0) 3 z1) 4 z2) 5 z3) 0 z4) 1 z6) (gSh_harm v0) (gLi_fast (gSh_lines v0)) (gLi_place (gSh_lines v0)) (gLi_post (gSh_lines v0)) (gLi_length (gSh_lines v0))) C (c_AL_held (z_l x) (z_g x)  (((gSh_ints v0) 2) + z3) (-45000) 45000 _ rfl) eX7_move_132 MX7_225 [] rfl rfl rfl rfl [0, 1, 2, 3, 4, 5] rfl ⟨rfl, rfl, rfl, rfl, rfl, rfl, trivial⟩ 6 rfl rfl rfl rfl rfl rfl ?_
  obtain ⟨z7, hz7, hf⟩ := zlet_of hf
  refine r_nami hz7 ?_
  refine r_put (ws' := W_Sh (z_g x) a0 o0 (upd (upd (upd (upd (upd (upd (gSh_ints v0) 3 z1) 4 z2) 5 z3) 0 z4) 1 z6) 2 z7) (gSh_harm v0) (gLi_fast (gSh_lines v0)) (gLi_place (gSh_lines v0)) (gLi_post (gSh_lines v0)) (gLi_length (gSh_lines v0))) C eX7_move_135 PX7_61 0 rfl rfl rfl (Nat.le_of_ble_eq_true rfl) rfl ?_
  refine r_aload_n C eX7_move_138 0 rfl rfl ?_
  refine r_dup C eX7_move_139 rfl ?_
  refine r_get (v := .int ((gSh_ints v0) 9)) C eX7_move_140 FX7_34 0 rfl rfl ?_
  refine r_iconst C (v := 1) eX7_move_143 (by decide) ?_
  refine r_iadd C eX7_move_144 ?_
  obtain ⟨z8, hz8, hf⟩ := zlet_of hf
  refine r_nami hz8 ?_
  refine r_put (ws' := W_Sh (z_g x) a0 o0 (upd (upd (upd (upd (upd (upd (upd (gSh_ints v0) 3 z1) 4 z2) 5 z3) 0 z4) 1 z6) 2 z7) 9 z8) (gSh_harm v0) (gLi_fast (gSh_lines v0)) (gLi_place (gSh_lines v0)) (gLi_post (gSh_lines v0)) (gLi_length (gSh_lines v0))) C eX7_move_145 PX7_34 0 rfl rfl rfl (Nat.le_of_ble_eq_true rfl) rfl ?_
  subst hf
  exact hret _ _ _ eX7_move_148
theorem eX7_stopAtGap_0 : zd 1 cX7_stopAtGap 0 1 (.aload_n 0) := ⟨by decide +kernel, rfl⟩
theorem eX7_stopAtGap_1 : zd 3 cX7_stopAtGap 1 4 (.getfield 27) := ⟨by decide +kernel, rfl⟩
theorem eX7_stopAtGap_4 : zd 1 cX7_stopAtGap 4 5 (.aload_n 1) := ⟨by decide +kernel, rfl⟩
theorem eX7_stopAtGap_5 : zd 2 cX7_stopAtGap 5 7 (.bipush 100) := ⟨by decide +kernel, rfl⟩
theorem eX7_stopAtGap_7 : zd 3 cX7_stopAtGap 7 10 (.invokevirtual 101) := ⟨by decide +kernel, rfl⟩
theorem eX7_stopAtGap_10 : zd 1 cX7_stopAtGap 10 11 (.iadd) := ⟨by decide +kernel, rfl⟩
theorem eX7_stopAtGap_11 : zd 1 cX7_stopAtGap 11 12 (.aload_n 1) := ⟨by decide +kernel, rfl⟩
theorem eX7_stopAtGap_12 : zd 3 cX7_stopAtGap 12 15 (.getfield 242) := ⟨by decide +kernel, rfl⟩
theorem eX7_stopAtGap_15 : zd 1 cX7_stopAtGap 15 16 (.isub) := ⟨by decide +kernel, rfl⟩
theorem eX7_stopAtGap_16 : zd 1 cX7_stopAtGap 16 17 (.istore_n 2) := ⟨by decide +kernel, rfl⟩
theorem eX7_stopAtGap_17 : zd 1 cX7_stopAtGap 17 18 (.iload_n 2) := ⟨by decide +kernel, rfl⟩
theorem eX7_stopAtGap_18 : zdi cX7_stopAtGap 18 21 59 (.ifCond .le) := ⟨41, by decide +kernel, rfl, by decide⟩
theorem eX7_stopAtGap_21 : zd 1 cX7_stopAtGap 21 22 (.aload_n 0) := ⟨by decide +kernel, rfl⟩
theorem eX7_stopAtGap_22 : zd 3 cX7_stopAtGap 22 25 (.getfield 64) := ⟨by decide +kernel, rfl⟩
theorem eX7_stopAtGap_25 : zd 2 cX7_stopAtGap 25 27 (.bipush 100) := ⟨by decide +kernel, rfl⟩
theorem eX7_stopAtGap_27 : zd 1 cX7_stopAtGap 27 28 (.idiv) := ⟨by decide +kernel, rfl⟩
theorem eX7_stopAtGap_28 : zdi cX7_stopAtGap 28 31 44 (.ifCond .le) := ⟨16, by decide +kernel, rfl, by decide⟩
theorem eX7_stopAtGap_31 : zd 1 cX7_stopAtGap 31 32 (.aload_n 0) := ⟨by decide +kernel, rfl⟩
theorem eX7_stopAtGap_32 : zd 1 cX7_stopAtGap 32 33 (.aload_n 1) := ⟨by decide +kernel, rfl⟩
theorem eX7_stopAtGap_33 : zd 1 cX7_stopAtGap 33 34 (.aload_n 0) := ⟨by decide +kernel, rfl⟩
theorem eX7_stopAtGap_34 : zd 3 cX7_stopAtGap 34 37 (.getfield 64) := ⟨by decide +kernel, rfl⟩
theorem eX7_stopAtGap_37 : zd 2 cX7_stopAtGap 37 39 (.bipush 100) := ⟨by decide +kernel, rfl⟩
theorem eX7_stopAtGap_39 : zd 1 cX7_stopAtGap 39 40 (.idiv) := ⟨by decide +kernel, rfl⟩
theorem eX7_stopAtGap_40 : zd 1 cX7_stopAtGap 40 41 (.i2l) := ⟨by decide +kernel, rfl⟩
theorem eX7_stopAtGap_41 : zd 3 cX7_stopAtGap 41 44 (.invokevirtual 238) := ⟨by decide +kernel, rfl⟩
theorem eX7_stopAtGap_44 : zd 1 cX7_stopAtGap 44 45 (.aload_n 0) := ⟨by decide +kernel, rfl⟩
theorem eX7_stopAtGap_45 : zd 1 cX7_stopAtGap 45 46 (.iconst 0) := ⟨by decide +kernel, rfl⟩
theorem eX7_stopAtGap_46 : zd 3 cX7_stopAtGap 46 49 (.putfield 64) := ⟨by decide +kernel, rfl⟩
theorem eX7_stopAtGap_49 : zd 1 cX7_stopAtGap 49 50 (.aload_n 0) := ⟨by decide +kernel, rfl⟩
theorem eX7_stopAtGap_50 : zd 1 cX7_stopAtGap 50 51 (.dup) := ⟨by decide +kernel, rfl⟩
theorem eX7_stopAtGap_51 : zd 3 cX7_stopAtGap 51 54 (.getfield 27) := ⟨by decide +kernel, rfl⟩
theorem eX7_stopAtGap_54 : zd 1 cX7_stopAtGap 54 55 (.iload_n 2) := ⟨by decide +kernel, rfl⟩
theorem eX7_stopAtGap_55 : zd 1 cX7_stopAtGap 55 56 (.isub) := ⟨by decide +kernel, rfl⟩
theorem eX7_stopAtGap_56 : zd 3 cX7_stopAtGap 56 59 (.putfield 27) := ⟨by decide +kernel, rfl⟩
theorem eX7_stopAtGap_59 : zd 1 cX7_stopAtGap 59 60 (.aload_n 1) := ⟨by decide +kernel, rfl⟩
theorem eX7_stopAtGap_60 : zd 3 cX7_stopAtGap 60 63 (.getfield 245) := ⟨by decide +kernel, rfl⟩
theorem eX7_stopAtGap_63 : zd 1 cX7_stopAtGap 63 64 (.aload_n 0) := ⟨by decide +kernel, rfl⟩
theorem eX7_stopAtGap_64 : zd 3 cX7_stopAtGap 64 67 (.getfield 27) := ⟨by decide +kernel, rfl⟩
theorem eX7_stopAtGap_67 : zd 1 cX7_stopAtGap 67 68 (.aload_n 1) := ⟨by decide +kernel, rfl⟩
theorem eX7_stopAtGap_68 : zd 2 cX7_stopAtGap 68 70 (.bipush (-100)) := ⟨by decide +kernel, rfl⟩
theorem eX7_stopAtGap_70 : zd 3 cX7_stopAtGap 70 73 (.invokevirtual 101) := ⟨by decide +kernel, rfl⟩
theorem eX7_stopAtGap_73 : zd 1 cX7_stopAtGap 73 74 (.iadd) := ⟨by decide +kernel, rfl⟩
theorem eX7_stopAtGap_74 : zd 1 cX7_stopAtGap 74 75 (.isub) := ⟨by decide +kernel, rfl⟩
theorem eX7_stopAtGap_75 : zd 1 cX7_stopAtGap 75 76 (.istore_n 3) := ⟨by decide +kernel, rfl⟩
theorem eX7_stopAtGap_76 : zd 1 cX7_stopAtGap 76 77 (.iload_n 3) := ⟨by decide +kernel, rfl⟩
theorem eX7_stopAtGap_77 : zdi cX7_stopAtGap 77 80 118 (.ifCond .le) := ⟨41, by decide +kernel, rfl, by decide⟩
theorem eX7_stopAtGap_80 : zd 1 cX7_stopAtGap 80 81 (.aload_n 0) := ⟨by decide +kernel, rfl⟩
theorem eX7_stopAtGap_81 : zd 3 cX7_stopAtGap 81 84 (.getfield 64) := ⟨by decide +kernel, rfl⟩
theorem eX7_stopAtGap_84 : zd 2 cX7_stopAtGap 84 86 (.bipush 100) := ⟨by decide +kernel, rfl⟩
theorem eX7_stopAtGap_86 : zd 1 cX7_stopAtGap 86 87 (.idiv) := ⟨by decide +kernel, rfl⟩
theorem eX7_stopAtGap_87 : zdi cX7_stopAtGap 87 90 103 (.ifCond .ge) := ⟨16, by decide +kernel, rfl, by decide⟩
theorem eX7_stopAtGap_90 : zd 1 cX7_stopAtGap 90 91 (.aload_n 0) := ⟨by decide +kernel, rfl⟩
theorem eX7_stopAtGap_91 : zd 1 cX7_stopAtGap 91 92 (.aload_n 1) := ⟨by decide +kernel, rfl⟩
theorem eX7_stopAtGap_92 : zd 1 cX7_stopAtGap 92 93 (.aload_n 0) := ⟨by decide +kernel, rfl⟩
theorem eX7_stopAtGap_93 : zd 3 cX7_stopAtGap 93 96 (.getfield 64) := ⟨by decide +kernel, rfl⟩
theorem eX7_stopAtGap_96 : zd 2 cX7_stopAtGap 96 98 (.bipush 100) := ⟨by decide +kernel, rfl⟩
theorem eX7_stopAtGap_98 : zd 1 cX7_stopAtGap 98 99 (.idiv) := ⟨by decide +kernel, rfl⟩
theorem eX7_stopAtGap_99 : zd 1 cX7_stopAtGap 99 100 (.i2l) := ⟨by decide +kernel, rfl⟩
theorem eX7_stopAtGap_100 : zd 3 cX7_stopAtGap 100 103 (.invokevirtual 238) := ⟨by decide +kernel, rfl⟩
theorem eX7_stopAtGap_103 : zd 1 cX7_stopAtGap 103 104 (.aload_n 0) := ⟨by decide +kernel, rfl⟩
theorem eX7_stopAtGap_104 : zd 1 cX7_stopAtGap 104 105 (.iconst 0) := ⟨by decide +kernel, rfl⟩
theorem eX7_stopAtGap_105 : zd 3 cX7_stopAtGap 105 108 (.putfield 64) := ⟨by decide +kernel, rfl⟩
theorem eX7_stopAtGap_108 : zd 1 cX7_stopAtGap 108 109 (.aload_n 0) := ⟨by decide +kernel, rfl⟩
theorem eX7_stopAtGap_109 : zd 1 cX7_stopAtGap 109 110 (.dup) := ⟨by decide +kernel, rfl⟩
theorem eX7_stopAtGap_110 : zd 3 cX7_stopAtGap 110 113 (.getfield 27) := ⟨by decide +kernel, rfl⟩
theorem eX7_stopAtGap_113 : zd 1 cX7_stopAtGap 113 114 (.iload_n 3) := ⟨by decide +kernel, rfl⟩
theorem eX7_stopAtGap_114 : zd 1 cX7_stopAtGap 114 115 (.iadd) := ⟨by decide +kernel, rfl⟩
theorem eX7_stopAtGap_115 : zd 3 cX7_stopAtGap 115 118 (.putfield 27) := ⟨by decide +kernel, rfl⟩
theorem eX7_stopAtGap_118 : zd 1 cX7_stopAtGap 118 119 (.return_) := ⟨by decide +kernel, rfl⟩
noncomputable def f_Sh_stopAtGap (v0 : tSh) (v1 : tQu)  : (Nat → Int32) × Int64 := (zlet ((((gSh_ints v0) 0) + (f_Qu_arm v1 100)) - ((gQu_ints v1) 1)) (fun (z1 : Int32) => (zlet (if z1 ≤ 0 then ((gSh_ints v0), (gSh_harm v0)) else (zlet (if (((gSh_ints v0) 3) / 100) ≤ 0 then (gSh_harm v0) else (zlet (f_Sh_addHarm v0 v1 (((gSh_ints v0) 3) / 100).toInt64) (fun (r8 : Int64) => r8))) (fun (w5 : Int64) => (zlet (((gSh_ints v0) 0) - z1) (fun (z9 : Int32) => ((upd (upd (gSh_ints v0) 3 0) 0 z9), w5)))))) (fun (w2 : (Nat → Int32) × Int64) => (zlet (((gQu_ints v1) 0) - (((w2.1) 0) + (f_Qu_arm v1 (-100)))) (fun (z10 : Int32) => (if z10 ≤ 0 then ((w2.1), (w2.2)) else (zlet (if 0 ≤ (((w2.1) 3) / 100) then (w2.2) else (zlet (f_Sh_addHarm ((w2.1), (w2.2), (gSh_lines v0)) v1 (((w2.1) 3) / 100).toInt64) (fun (r15 : Int64) => r15))) (fun (w12 : Int64) => (zlet (((w2.1) 0) + z10) (fun (z16 : Int32) => ((upd (upd (w2.1) 3 0) 0 z16), w12))))))))))))
abbrev rm_Sh_stopAtGap : Room := { frames := 1, cells := 0, slots := 0, locals := 23 }
set_option maxHeartbeats 4000000 in
set_option maxRecDepth 100000 in
theorem c_Sh_stopAtGap (l : Launch) (g : zGl) (a0 : Nat → Nat) (o0 : Nat) (v0 : tSh) (a1 : Nat → Nat) (o1 : Nat) (v1 : tQu)  (out : (Nat → Int32) × Int64) (hf : f_Sh_stopAtGap v0 v1 = out) : zMv l yX7_stopAtGap cX7_stopAtGap 4 rm_Sh_stopAtGap g [.ref (a0 o0), .ref (a1 o1)] (W_Sh g a0 o0 (gSh_ints v0) (gSh_harm v0) (gLi_fast (gSh_lines v0)) (gLi_place (gSh_lines v0)) (gLi_post (gSh_lines v0)) (gLi_length (gSh_lines v0)) ++ W_Qu g a1 o1 (gQu_ints v1) (gQu_places v1) (gQu_strengths v1))  (W_Sh g a0 o0 (out.1) (out.2) (gLi_fast (gSh_lines v0)) (gLi_place (gSh_lines v0)) (gLi_post (gSh_lines v0)) (gLi_length (gSh_lines v0)) ++ W_Qu g a1 o1 (gQu_ints v1) (gQu_places v1) (gQu_strengths v1)) := by
  refine zMv_of (lv := [(0, .ref (a0 o0)), (1, .ref (a1 o1))]) (by decide) (Nat.le_of_ble_eq_true rfl) rfl (fun x hl hg C hret => ?_)
  subst hl; subst hg
  rw [f_Sh_stopAtGap] at hf
  refine r_aload_n C eX7_stopAtGap_0 0 rfl rfl ?_
  refine r_get (v := .int ((gSh_ints v0) 0)) C eX7_stopAtGap_1 FX7_27 0 rfl rfl ?_
  refine r_aload_n C eX7_stopAtGap_4 1 rfl rfl ?_
  refine r_bipush C (v := 100) eX7_stopAtGap_5 (by decide) ?_
  refine r_V_i (ws' := W_Sh (z_g x) a0 o0 (gSh_ints v0) (gSh_harm v0) (gLi_fast (gSh_lines v0)) (gLi_place (gSh_lines v0)) (gLi_post (gSh_lines v0)) (gLi_length (gSh_lines v0)) ++ W_Qu (z_g x) a1 o1 (gQu_ints v1) (gQu_places v1) (gQu_strengths v1)) C (c_Qu_arm (z_l x) (z_g x) a1 o1 v1 100 _ rfl) eX7_stopAtGap_7 MX7_101 ⟨0, 4, _, _, rfl, rfl, rfl⟩ [6, 7, 8] rfl rfl rfl rfl [0, 1, 2, 3, 4, 5] rfl ⟨rfl, rfl, rfl, rfl, rfl, rfl, trivial⟩ 9 rfl rfl rfl rfl rfl rfl ?_
  refine r_iadd C eX7_stopAtGap_10 ?_
  refine r_aload_n C eX7_stopAtGap_11 1 rfl rfl ?_
  refine r_get (v := .int ((gQu_ints v1) 1)) C eX7_stopAtGap_12 FX7_242 6 rfl rfl ?_
  refine r_isub C eX7_stopAtGap_15 ?_
  obtain ⟨z1, hz1, hf⟩ := zlet_of hf
  refine r_nami hz1 ?_
  refine r_istore_n C [(2, .int z1), (0, .ref (a0 o0)), (1, .ref (a1 o1))] eX7_stopAtGap_16 rfl (by decide) rfl ?_
  refine r_iload_n C eX7_stopAtGap_17 0 rfl rfl ?_
  obtain ⟨w2, hw2, hf⟩ := zlet_of hf
  have J3 : vV x 4 0 0 (W_Sh (z_g x) a0 o0 (w2.1) (w2.2) (gLi_fast (gSh_lines v0)) (gLi_place (gSh_lines v0)) (gLi_post (gSh_lines v0)) (gLi_length (gSh_lines v0)) ++ W_Qu (z_g x) a1 o1 (gQu_ints v1) (gQu_places v1) (gQu_strengths v1)) 59 [(0, .ref (a0 o0)), (1, .ref (a1 o1))] [] := by
    refine r_aload_n C eX7_stopAtGap_59 1 rfl rfl ?_
    refine r_get (v := .int ((gQu_ints v1) 0)) C eX7_stopAtGap_60 FX7_245 6 rfl rfl ?_
    refine r_aload_n C eX7_stopAtGap_63 0 rfl rfl ?_
    refine r_get (v := .int ((w2.1) 0)) C eX7_stopAtGap_64 FX7_27 0 rfl rfl ?_
    refine r_aload_n C eX7_stopAtGap_67 1 rfl rfl ?_
    refine r_bipush C (v := (-100)) eX7_stopAtGap_68 (by decide) ?_
    refine r_V_i (ws' := W_Sh (z_g x) a0 o0 (w2.1) (w2.2) (gLi_fast (gSh_lines v0)) (gLi_place (gSh_lines v0)) (gLi_post (gSh_lines v0)) (gLi_length (gSh_lines v0)) ++ W_Qu (z_g x) a1 o1 (gQu_ints v1) (gQu_places v1) (gQu_strengths v1)) C (c_Qu_arm (z_l x) (z_g x) a1 o1 v1 (-100) _ rfl) eX7_stopAtGap_70 MX7_101 ⟨0, 4, _, _, rfl, rfl, rfl⟩ [6, 7, 8] rfl rfl rfl rfl [0, 1, 2, 3, 4, 5] rfl ⟨rfl, rfl, rfl, rfl, rfl, rfl, trivial⟩ 9 rfl rfl rfl rfl rfl rfl ?_
    refine r_iadd C eX7_stopAtGap_73 ?_
    refine r_isub C eX7_stopAtGap_74 ?_
    obtain ⟨z10, hz10, hf⟩ := zlet_of hf
    refine r_nami hz10 ?_
    refine r_istore_n C [(3, .int z10), (0, .ref (a0 o0)), (1, .ref (a1 o1))] eX7_stopAtGap_75 rfl (by decide) rfl ?_
    refine r_iload_n C eX7_stopAtGap_76 0 rfl rfl ?_
    refine r_if_le C eX7_stopAtGap_77 (fun c11 => ?_) (fun c11 => ?_)
    · rw [if_pos c11] at hf
      subst hf
      exact hret _ _ _ eX7_stopAtGap_118
    · rw [if_neg c11] at hf
      refine r_aload_n C eX7_stopAtGap_80 1 rfl rfl ?_
      refine r_get (v := .int ((w2.1) 3)) C eX7_stopAtGap_81 FX7_64 0 rfl rfl ?_
      refine r_bipush C (v := 100) eX7_stopAtGap_84 (by decide) ?_
      refine r_idiv C eX7_stopAtGap_86 (by decide) ?_
      obtain ⟨w12, hw12, hf⟩ := zlet_of hf
      have J13 : vV x 4 0 0 (W_Sh (z_g x) a0 o0 (w2.1) w12 (gLi_fast (gSh_lines v0)) (gLi_place (gSh_lines v0)) (gLi_post (gSh_lines v0)) (gLi_length (gSh_lines v0)) ++ W_Qu (z_g x) a1 o1 (gQu_ints v1) (gQu_places v1) (gQu_strengths v1)) 103 [(0, .ref (a0 o0)), (3, .int z10)] [] := by
        refine r_aload_n C eX7_stopAtGap_103 0 rfl rfl ?_
        refine r_iconst C (v := 0) eX7_stopAtGap_104 (by decide) ?_
        refine r_put (ws' := W_Sh (z_g x) a0 o0 (upd (w2.1) 3 0) w12 (gLi_fast (gSh_lines v0)) (gLi_place (gSh_lines v0)) (gLi_post (gSh_lines v0)) (gLi_length (gSh_lines v0)) ++ W_Qu (z_g x) a1 o1 (gQu_ints v1) (gQu_places v1) (gQu_strengths v1)) C eX7_stopAtGap_105 PX7_64 0 rfl rfl rfl (Nat.le_of_ble_eq_true rfl) rfl ?_
        refine r_aload_n C eX7_stopAtGap_108 0 rfl rfl ?_
        refine r_dup C eX7_stopAtGap_109 rfl ?_
        refine r_get (v := .int ((w2.1) 0)) C eX7_stopAtGap_110 FX7_27 0 rfl rfl ?_
        refine r_iload_n C eX7_stopAtGap_113 1 rfl rfl ?_
        refine r_iadd C eX7_stopAtGap_114 ?_
        obtain ⟨z16, hz16, hf⟩ := zlet_of hf
        refine r_nami hz16 ?_
        refine r_put (ws' := W_Sh (z_g x) a0 o0 (upd (upd (w2.1) 3 0) 0 z16) w12 (gLi_fast (gSh_lines v0)) (gLi_place (gSh_lines v0)) (gLi_post (gSh_lines v0)) (gLi_length (gSh_lines v0)) ++ W_Qu (z_g x) a1 o1 (gQu_ints v1) (gQu_places v1) (gQu_strengths v1)) C eX7_stopAtGap_115 PX7_27 0 rfl rfl rfl (Nat.le_of_ble_eq_true rfl) rfl ?_
        subst hf
        exact hret _ _ _ eX7_stopAtGap_118
      refine r_if_ge C eX7_stopAtGap_87 (fun c14 => ?_) (fun c14 => ?_)
      · rw [if_pos c14] at hw12
        subst hw12
        refine r_sub (lv' := [(0, .ref (a0 o0)), (3, .int z10)]) [1, 0] rfl ?_
        exact J13 
      · rw [if_neg c14] at hw12
        refine r_aload_n C eX7_stopAtGap_90 1 rfl rfl ?_
        refine r_aload_n C eX7_stopAtGap_91 2 rfl rfl ?_
        refine r_aload_n C eX7_stopAtGap_92 1 rfl rfl ?_
        refine r_get (v := .int ((w2.1) 3)) C eX7_stopAtGap_93 FX7_64 0 rfl rfl ?_
        refine r_bipush C (v := 100) eX7_stopAtGap_96 (by decide) ?_
        refine r_idiv C eX7_stopAtGap_98 (by decide) ?_
        refine r_i2l C eX7_stopAtGap_99 ?_
        obtain ⟨r15, hr15, hw12⟩ := zlet_of hw12
        refine r_V_v (ws' := W_Sh (z_g x) a0 o0 (w2.1) r15 (gLi_fast (gSh_lines v0)) (gLi_place (gSh_lines v0)) (gLi_post (gSh_lines v0)) (gLi_length (gSh_lines v0)) ++ W_Qu (z_g x) a1 o1 (gQu_ints v1) (gQu_places v1) (gQu_strengths v1)) C (c_Sh_addHarm (z_l x) (z_g x) a0 o0 ((w2.1), (w2.2), (gSh_lines v0)) a1 o1 v1 (((w2.1) 3) / 100).toInt64 r15 hr15) eX7_stopAtGap_100 MX7_238 ⟨0, 7, _, _, rfl, rfl, rfl⟩ [0, 1, 2, 3, 4, 5, 6, 7, 8] rfl rfl rfl rfl [] rfl trivial 9 rfl rfl rfl rfl rfl rfl ?_
        subst hw12
        refine r_sub (lv' := [(0, .ref (a0 o0)), (3, .int z10)]) [1, 0] rfl ?_
        exact J13 
  refine r_if_le C eX7_stopAtGap_18 (fun c4 => ?_) (fun c4 => ?_)
  · rw [if_pos c4] at hw2
    subst hw2
    refine r_sub (lv' := [(0, .ref (a0 o0)), (1, .ref (a1 o1))]) [1, 2] rfl ?_
    exact J3 
  · rw [if_neg c4] at hw2
    refine r_aload_n C eX7_stopAtGap_21 1 rfl rfl ?_
    refine r_get (v := .int ((gSh_ints v0) 3)) C eX7_stopAtGap_22 FX7_64 0 rfl rfl ?_
    refine r_bipush C (v := 100) eX7_stopAtGap_25 (by decide) ?_
    refine r_idiv C eX7_stopAtGap_27 (by decide) ?_
    obtain ⟨w5, hw5, hw2⟩ := zlet_of hw2
    have J6 : vV x 4 0 0 (W_Sh (z_g x) a0 o0 (gSh_ints v0) w5 (gLi_fast (gSh_lines v0)) (gLi_place (gSh_lines v0)) (gLi_post (gSh_lines v0)) (gLi_length (gSh_lines v0)) ++ W_Qu (z_g x) a1 o1 (gQu_ints v1) (gQu_places v1) (gQu_strengths v1)) 44 [(0, .ref (a0 o0)), (1, .ref (a1 o1)), (2, .int z1)] [] := by
      refine r_aload_n C eX7_stopAtGap_44 0 rfl rfl ?_
      refine r_iconst C (v := 0) eX7_stopAtGap_45 (by decide) ?_
      refine r_put (ws' := W_Sh (z_g x) a0 o0 (upd (gSh_ints v0) 3 0) w5 (gLi_fast (gSh_lines v0)) (gLi_place (gSh_lines v0)) (gLi_post (gSh_lines v0)) (gLi_length (gSh_lines v0)) ++ W_Qu (z_g x) a1 o1 (gQu_ints v1) (gQu_places v1) (gQu_strengths v1)) C eX7_stopAtGap_46 PX7_64 0 rfl rfl rfl (Nat.le_of_ble_eq_true rfl) rfl ?_
      refine r_aload_n C eX7_stopAtGap_49 0 rfl rfl ?_
      refine r_dup C eX7_stopAtGap_50 rfl ?_
      refine r_get (v := .int ((gSh_ints v0) 0)) C eX7_stopAtGap_51 FX7_27 0 rfl rfl ?_
      refine r_iload_n C eX7_stopAtGap_54 2 rfl rfl ?_
      refine r_isub C eX7_stopAtGap_55 ?_
      obtain ⟨z9, hz9, hw2⟩ := zlet_of hw2
      refine r_nami hz9 ?_
      refine r_put (ws' := W_Sh (z_g x) a0 o0 (upd (upd (gSh_ints v0) 3 0) 0 z9) w5 (gLi_fast (gSh_lines v0)) (gLi_place (gSh_lines v0)) (gLi_post (gSh_lines v0)) (gLi_length (gSh_lines v0)) ++ W_Qu (z_g x) a1 o1 (gQu_ints v1) (gQu_places v1) (gQu_strengths v1)) C eX7_stopAtGap_56 PX7_27 0 rfl rfl rfl (Nat.le_of_ble_eq_true rfl) rfl ?_
      subst hw2
      refine r_sub (lv' := [(0, .ref (a0 o0)), (1, .ref (a1 o1))]) [0, 1] rfl ?_
      exact J3 
    refine r_if_le C eX7_stopAtGap_28 (fun c7 => ?_) (fun c7 => ?_)
    · rw [if_pos c7] at hw5
      subst hw5
      refine r_sub (lv' := [(0, .ref (a0 o0)), (1, .ref (a1 o1)), (2, .int z1)]) [1, 2, 0] rfl ?_
      exact J6 
    · rw [if_neg c7] at hw5
      refine r_aload_n C eX7_stopAtGap_31 1 rfl rfl ?_
      refine r_aload_n C eX7_stopAtGap_32 2 rfl rfl ?_
      refine r_aload_n C eX7_stopAtGap_33 1 rfl rfl ?_
      refine r_get (v := .int ((gSh_ints v0) 3)) C eX7_stopAtGap_34 FX7_64 0 rfl rfl ?_
      refine r_bipush C (v := 100) eX7_stopAtGap_37 (by decide) ?_
      refine r_idiv C eX7_stopAtGap_39 (by decide) ?_
      refine r_i2l C eX7_stopAtGap_40 ?_
      obtain ⟨r8, hr8, hw5⟩ := zlet_of hw5
      refine r_V_v (ws' := W_Sh (z_g x) a0 o0 (gSh_ints v0) r8 (gLi_fast (gSh_lines v0)) (gLi_place (gSh_lines v0)) (gLi_post (gSh_lines v0)) (gLi_length (gSh_lines v0)) ++ W_Qu (z_g x) a1 o1 (gQu_ints v1) (gQu_places v1) (gQu_strengths v1)) C (c_Sh_addHarm (z_l x) (z_g x) a0 o0 v0 a1 o1 v1 (((gSh_ints v0) 3) / 100).toInt64 r8 hr8) eX7_stopAtGap_41 MX7_238 ⟨0, 7, _, _, rfl, rfl, rfl⟩ [0, 1, 2, 3, 4, 5, 6, 7, 8] rfl rfl rfl rfl [] rfl trivial 9 rfl rfl rfl rfl rfl rfl ?_
      subst hw5
      refine r_sub (lv' := [(0, .ref (a0 o0)), (1, .ref (a1 o1)), (2, .int z1)]) [1, 2, 0] rfl ?_
      exact J6 
