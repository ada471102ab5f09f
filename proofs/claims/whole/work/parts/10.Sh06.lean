theorem eX7_passSecond_0 : zd 1 cX7_passSecond 0 1 (.aload_n 0) := ⟨by decide +kernel, rfl⟩
theorem eX7_passSecond_1 : zd 1 cX7_passSecond 1 2 (.aload_n 1) := ⟨by decide +kernel, rfl⟩
theorem eX7_passSecond_2 : zd 3 cX7_passSecond 2 5 (.invokevirtual 159) := ⟨by decide +kernel, rfl⟩
theorem eX7_passSecond_5 : zd 1 cX7_passSecond 5 6 (.iconst 0) := ⟨by decide +kernel, rfl⟩
theorem eX7_passSecond_6 : zd 1 cX7_passSecond 6 7 (.istore_n 2) := ⟨by decide +kernel, rfl⟩
theorem eX7_passSecond_7 : zd 1 cX7_passSecond 7 8 (.iconst 0) := ⟨by decide +kernel, rfl⟩
theorem eX7_passSecond_8 : zd 1 cX7_passSecond 8 9 (.istore_n 3) := ⟨by decide +kernel, rfl⟩
theorem eX7_passSecond_9 : zd 1 cX7_passSecond 9 10 (.iload_n 3) := ⟨by decide +kernel, rfl⟩
theorem eX7_passSecond_10 : zd 2 cX7_passSecond 10 12 (.bipush 6) := ⟨by decide +kernel, rfl⟩
theorem eX7_passSecond_12 : zdi cX7_passSecond 12 15 55 (.if_icmp .ge) := ⟨43, by decide +kernel, rfl, by decide⟩
theorem eX7_passSecond_15 : zd 1 cX7_passSecond 15 16 (.aload_n 0) := ⟨by decide +kernel, rfl⟩
theorem eX7_passSecond_16 : zd 3 cX7_passSecond 16 19 (.getfield 10) := ⟨by decide +kernel, rfl⟩
theorem eX7_passSecond_19 : zd 3 cX7_passSecond 19 22 (.getfield 163) := ⟨by decide +kernel, rfl⟩
theorem eX7_passSecond_22 : zd 1 cX7_passSecond 22 23 (.iload_n 3) := ⟨by decide +kernel, rfl⟩
theorem eX7_passSecond_23 : zd 1 cX7_passSecond 23 24 (.baload) := ⟨by decide +kernel, rfl⟩
theorem eX7_passSecond_24 : zdi cX7_passSecond 24 27 49 (.ifCond .eq) := ⟨25, by decide +kernel, rfl, by decide⟩
theorem eX7_passSecond_27 : zd 1 cX7_passSecond 27 28 (.aload_n 0) := ⟨by decide +kernel, rfl⟩
theorem eX7_passSecond_28 : zd 1 cX7_passSecond 28 29 (.aload_n 1) := ⟨by decide +kernel, rfl⟩
theorem eX7_passSecond_29 : zd 1 cX7_passSecond 29 30 (.iload_n 3) := ⟨by decide +kernel, rfl⟩
theorem eX7_passSecond_30 : zd 3 cX7_passSecond 30 33 (.invokevirtual 167) := ⟨by decide +kernel, rfl⟩
theorem eX7_passSecond_33 : zdi cX7_passSecond 33 36 49 (.ifCond .ne) := ⟨16, by decide +kernel, rfl, by decide⟩
theorem eX7_passSecond_36 : zd 1 cX7_passSecond 36 37 (.aload_n 0) := ⟨by decide +kernel, rfl⟩
theorem eX7_passSecond_37 : zd 3 cX7_passSecond 37 40 (.getfield 10) := ⟨by decide +kernel, rfl⟩
theorem eX7_passSecond_40 : zd 3 cX7_passSecond 40 43 (.getfield 163) := ⟨by decide +kernel, rfl⟩
theorem eX7_passSecond_43 : zd 1 cX7_passSecond 43 44 (.iload_n 3) := ⟨by decide +kernel, rfl⟩
theorem eX7_passSecond_44 : zd 1 cX7_passSecond 44 45 (.iconst 0) := ⟨by decide +kernel, rfl⟩
theorem eX7_passSecond_45 : zd 1 cX7_passSecond 45 46 (.bastore) := ⟨by decide +kernel, rfl⟩
theorem eX7_passSecond_46 : zd 3 cX7_passSecond 46 49 (.iinc 2 1) := ⟨by decide +kernel, rfl⟩
theorem eX7_passSecond_49 : zd 3 cX7_passSecond 49 52 (.iinc 3 1) := ⟨by decide +kernel, rfl⟩
theorem eX7_passSecond_52 : zdi cX7_passSecond 52 55 9 (.goto) := ⟨(-43), by decide +kernel, rfl, by decide⟩
theorem eX7_passSecond_55 : zd 1 cX7_passSecond 55 56 (.aload_n 0) := ⟨by decide +kernel, rfl⟩
theorem eX7_passSecond_56 : zd 3 cX7_passSecond 56 59 (.invokevirtual 171) := ⟨by decide +kernel, rfl⟩
theorem eX7_passSecond_59 : zd 1 cX7_passSecond 59 60 (.aload_n 0) := ⟨by decide +kernel, rfl⟩
theorem eX7_passSecond_60 : zd 1 cX7_passSecond 60 61 (.aload_n 1) := ⟨by decide +kernel, rfl⟩
theorem eX7_passSecond_61 : zd 1 cX7_passSecond 61 62 (.aload_n 1) := ⟨by decide +kernel, rfl⟩
theorem eX7_passSecond_62 : zd 2 cX7_passSecond 62 64 (.bipush 100) := ⟨by decide +kernel, rfl⟩
theorem eX7_passSecond_64 : zd 3 cX7_passSecond 64 67 (.invokevirtual 101) := ⟨by decide +kernel, rfl⟩
theorem eX7_passSecond_67 : zd 3 cX7_passSecond 67 70 (.invokevirtual 174) := ⟨by decide +kernel, rfl⟩
theorem eX7_passSecond_70 : zd 1 cX7_passSecond 70 71 (.aload_n 0) := ⟨by decide +kernel, rfl⟩
theorem eX7_passSecond_71 : zd 1 cX7_passSecond 71 72 (.aload_n 1) := ⟨by decide +kernel, rfl⟩
theorem eX7_passSecond_72 : zd 1 cX7_passSecond 72 73 (.aload_n 1) := ⟨by decide +kernel, rfl⟩
theorem eX7_passSecond_73 : zd 2 cX7_passSecond 73 75 (.bipush (-100)) := ⟨by decide +kernel, rfl⟩
theorem eX7_passSecond_75 : zd 3 cX7_passSecond 75 78 (.invokevirtual 101) := ⟨by decide +kernel, rfl⟩
theorem eX7_passSecond_78 : zd 3 cX7_passSecond 78 81 (.invokevirtual 174) := ⟨by decide +kernel, rfl⟩
theorem eX7_passSecond_81 : zd 1 cX7_passSecond 81 82 (.aload_n 0) := ⟨by decide +kernel, rfl⟩
theorem eX7_passSecond_82 : zd 1 cX7_passSecond 82 83 (.aload_n 1) := ⟨by decide +kernel, rfl⟩
theorem eX7_passSecond_83 : zd 3 cX7_passSecond 83 86 (.invokevirtual 178) := ⟨by decide +kernel, rfl⟩
theorem eX7_passSecond_86 : zd 1 cX7_passSecond 86 87 (.aload_n 0) := ⟨by decide +kernel, rfl⟩
theorem eX7_passSecond_87 : zd 3 cX7_passSecond 87 90 (.getfield 31) := ⟨by decide +kernel, rfl⟩
theorem eX7_passSecond_90 : zd 3 cX7_passSecond 90 93 (.sipush 30000) := ⟨by decide +kernel, rfl⟩
theorem eX7_passSecond_93 : zdi cX7_passSecond 93 96 115 (.if_icmp .le) := ⟨22, by decide +kernel, rfl, by decide⟩
theorem eX7_passSecond_96 : zd 1 cX7_passSecond 96 97 (.aload_n 0) := ⟨by decide +kernel, rfl⟩
theorem eX7_passSecond_97 : zd 3 cX7_passSecond 97 100 (.sipush 30000) := ⟨by decide +kernel, rfl⟩
theorem eX7_passSecond_100 : zd 3 cX7_passSecond 100 103 (.putfield 31) := ⟨by decide +kernel, rfl⟩
theorem eX7_passSecond_103 : zd 1 cX7_passSecond 103 104 (.aload_n 0) := ⟨by decide +kernel, rfl⟩
theorem eX7_passSecond_104 : zd 1 cX7_passSecond 104 105 (.iconst 0) := ⟨by decide +kernel, rfl⟩
theorem eX7_passSecond_105 : zd 1 cX7_passSecond 105 106 (.aload_n 0) := ⟨by decide +kernel, rfl⟩
theorem eX7_passSecond_106 : zd 3 cX7_passSecond 106 109 (.getfield 67) := ⟨by decide +kernel, rfl⟩
theorem eX7_passSecond_109 : zd 3 cX7_passSecond 109 112 (.invokestatic 90) := ⟨by decide +kernel, rfl⟩
theorem eX7_passSecond_112 : zd 3 cX7_passSecond 112 115 (.putfield 67) := ⟨by decide +kernel, rfl⟩
theorem eX7_passSecond_115 : zd 1 cX7_passSecond 115 116 (.iload_n 2) := ⟨by decide +kernel, rfl⟩
theorem eX7_passSecond_116 : zd 1 cX7_passSecond 116 117 (.ireturn) := ⟨by decide +kernel, rfl⟩
theorem FX7_163 : zlF RX7 163 1 0 := ⟨(RX1, TX1, 4), rfl, by decide, q209, zin1⟩
theorem MX7_159 : zlV RX7 159 yX7_gainByEngineAndWeather cX7_gainByEngineAndWeather 3 (none) 1 := ⟨q724, q726, qs12, q7, q727, by decide, by decide, by decide +kernel⟩
theorem MX7_167 : zlV RX7 167 yX7_gainByLine cX7_gainByLine 11 ((Option.some FieldType.boolean)) 2 := ⟨q728, q730, qs13, q7, q731, by decide, by decide, by decide +kernel⟩
theorem MX7_171 : zlV RX7 171 yX7_move cX7_move 1 (none) 0 := ⟨q744, q746, qs14, q7, q747, by decide, by decide, by decide +kernel⟩
theorem MX7_174 : zlV RX7 174 yX7_knock cX7_knock 8 (none) 2 := ⟨q759, q761, qs15, q7, q762, by decide, by decide, by decide +kernel⟩
theorem MX7_178 : zlV RX7 178 yX7_stopAtGap cX7_stopAtGap 4 (none) 1 := ⟨q770, q772, qs17, q7, q773, by decide, by decide, by decide +kernel⟩
noncomputable def fB_Sh_passSecond_9 (v0 : tSh) (v1 : tQu) (ih : (Int32 × Int32 × (Nat → Int32) × (Nat → Int32)) → Option (Int32 × Int32 × (Nat → Int32) × (Nat → Int32))) (s2 : Int32 × Int32 × (Nat → Int32) × (Nat → Int32)) : Option (Int32 × Int32 × (Nat → Int32) × (Nat → Int32)) := (if 6 ≤ (s2.2.1) then (some ((s2.1), (s2.2.1), (s2.2.2.1), (s2.2.2.2))) else (if inb (s2.2.1) 6 = true then (if ((s2.2.2.2) (ix (s2.2.1))) = 0 then (ih ((s2.1), ((s2.2.1) + 1), (s2.2.2.1), (s2.2.2.2))) else (Option.bind (f_Sh_gainByLine ((s2.2.2.1), (gSh_harm v0), ((s2.2.2.2), (gLi_place (gSh_lines v0)), (gLi_post (gSh_lines v0)), (gLi_length (gSh_lines v0)))) v1 (s2.2.1)) (fun (r10 : Int32 × (Nat → Int32)) => (if (r10.1) = 0 then (if inb (s2.2.1) 6 = true then (ih (((s2.1) + 1), ((s2.2.1) + 1), (r10.2), (upd (s2.2.2.2) (ix (s2.2.1)) (vp_nar .boolean 0)))) else none) else (ih ((s2.1), ((s2.2.1) + 1), (r10.2), (s2.2.2.2))))))) else none))
noncomputable def f_Sh_passSecond (v0 : tSh) (v1 : tQu)  : Option (Int32 × (Nat → Int32) × Int64 × (Nat → Int32)) := (Option.bind (f_Sh_gainByEngineAndWeather v0 v1) (fun (r1 : (Nat → Int32)) => (Option.bind (lp (fB_Sh_passSecond_9 v0 v1) LF (0, 0, r1, (gLi_fast (gSh_lines v0)))) (fun (q3 : Int32 × Int32 × (Nat → Int32) × (Nat → Int32)) => (zlet (f_Sh_move ((q3.2.2.1), (gSh_harm v0), ((q3.2.2.2), (gLi_place (gSh_lines v0)), (gLi_post (gSh_lines v0)), (gLi_length (gSh_lines v0))))) (fun (r14 : (Nat → Int32)) => (zlet (f_Sh_knock (r14, (gSh_harm v0), ((q3.2.2.2), (gLi_place (gSh_lines v0)), (gLi_post (gSh_lines v0)), (gLi_length (gSh_lines v0)))) v1 (f_Qu_arm v1 100)) (fun (r15 : (Nat → Int32) × Int64) => (zlet (f_Sh_knock ((r15.1), (r15.2), ((q3.2.2.2), (gLi_place (gSh_lines v0)), (gLi_post (gSh_lines v0)), (gLi_length (gSh_lines v0)))) v1 (f_Qu_arm v1 (-100))) (fun (r16 : (Nat → Int32) × Int64) => (zlet (f_Sh_stopAtGap ((r16.1), (r16.2), ((q3.2.2.2), (gLi_place (gSh_lines v0)), (gLi_post (gSh_lines v0)), (gLi_length (gSh_lines v0)))) v1) (fun (r17 : (Nat → Int32) × Int64) => (if ((r17.1) 1) ≤ 30000 then (some ((q3.1), (r17.1), (r17.2), (q3.2.2.2))) else (zlet (zmax 0 ((r17.1) 4)) (fun (z19 : Int32) => (some ((q3.1), (upd (upd (r17.1) 1 30000) 4 z19), (r17.2), (q3.2.2.2))))))))))))))))))
abbrev rm_Sh_passSecond : Room := { frames := 3, cells := 0, slots := 0, locals := 79 }
set_option maxHeartbeats 4000000 in
set_option maxRecDepth 100000 in
theorem c_Sh_passSecond (l : Launch) (g : zGl) (a0 : Nat → Nat) (o0 : Nat) (v0 : tSh) (a1 : Nat → Nat) (o1 : Nat) (v1 : tQu)  (out : Int32 × (Nat → Int32) × Int64 × (Nat → Int32)) (hf : f_Sh_passSecond v0 v1 = some out) : zMi l yX7_passSecond cX7_passSecond 4 rm_Sh_passSecond g [.ref (a0 o0), .ref (a1 o1)] (W_Sh g a0 o0 (gSh_ints v0) (gSh_harm v0) (gLi_fast (gSh_lines v0)) (gLi_place (gSh_lines v0)) (gLi_post (gSh_lines v0)) (gLi_length (gSh_lines v0)) ++ W_Qu g a1 o1 (gQu_ints v1) (gQu_places v1) (gQu_strengths v1)) (out.1) (W_Sh g a0 o0 (out.2.1) (out.2.2.1) (out.2.2.2) (gLi_place (gSh_lines v0)) (gLi_post (gSh_lines v0)) (gLi_length (gSh_lines v0)) ++ W_Qu g a1 o1 (gQu_ints v1) (gQu_places v1) (gQu_strengths v1)) := by
  refine zMi_of (lv := [(0, .ref (a0 o0)), (1, .ref (a1 o1))]) (by decide) (Nat.le_of_ble_eq_true rfl) rfl (fun x hl hg C hret => ?_)
  subst hl; subst hg
  rw [f_Sh_passSecond] at hf
  refine r_aload_n C eX7_passSecond_0 0 rfl rfl ?_
  refine r_aload_n C eX7_passSecond_1 1 rfl rfl ?_
  obtain ⟨r1, hr1, hf⟩ := zbind hf
  refine r_V_v (ws' := W_Sh (z_g x) a0 o0 r1 (gSh_harm v0) (gLi_fast (gSh_lines v0)) (gLi_place (gSh_lines v0)) (gLi_post (gSh_lines v0)) (gLi_length (gSh_lines v0)) ++ W_Qu (z_g x) a1 o1 (gQu_ints v1) (gQu_places v1) (gQu_strengths v1)) C (c_Sh_gainByEngineAndWeather (z_l x) (z_g x) a0 o0 v0 a1 o1 v1  r1 hr1) eX7_passSecond_2 MX7_159 ⟨0, 7, _, _, rfl, rfl, rfl⟩ [0, 1, 2, 3, 4, 5, 6, 7, 8] rfl rfl rfl rfl [] rfl trivial 9 rfl rfl rfl rfl rfl rfl ?_
  refine r_iconst C (v := 0) eX7_passSecond_5 (by decide) ?_
  refine r_istore_n C [(2, .int 0), (0, .ref (a0 o0)), (1, .ref (a1 o1))] eX7_passSecond_6 rfl (by decide) rfl ?_
  refine r_iconst C (v := 0) eX7_passSecond_7 (by decide) ?_
  refine r_istore_n C [(3, .int 0), (2, .int 0), (0, .ref (a0 o0)), (1, .ref (a1 o1))] eX7_passSecond_8 rfl (by decide) rfl ?_
  obtain ⟨q3, h4, hf⟩ := zbind hf
  have J5 : vV x 4 0 0 (W_Sh (z_g x) a0 o0 (q3.2.2.1) (gSh_harm v0) (q3.2.2.2) (gLi_place (gSh_lines v0)) (gLi_post (gSh_lines v0)) (gLi_length (gSh_lines v0)) ++ W_Qu (z_g x) a1 o1 (gQu_ints v1) (gQu_places v1) (gQu_strengths v1)) 55 [(0, .ref (a0 o0)), (1, .ref (a1 o1)), (2, .int (q3.1))] [] := by
    refine r_aload_n C eX7_passSecond_55 0 rfl rfl ?_
    obtain ⟨r14, hr14, hf⟩ := zlet_of hf
    refine r_V_v (ws' := W_Sh (z_g x) a0 o0 r14 (gSh_harm v0) (q3.2.2.2) (gLi_place (gSh_lines v0)) (gLi_post (gSh_lines v0)) (gLi_length (gSh_lines v0)) ++ W_Qu (z_g x) a1 o1 (gQu_ints v1) (gQu_places v1) (gQu_strengths v1)) C (c_Sh_move (z_l x) (z_g x) a0 o0 ((q3.2.2.1), (gSh_harm v0), ((q3.2.2.2), (gLi_place (gSh_lines v0)), (gLi_post (gSh_lines v0)), (gLi_length (gSh_lines v0))))  r14 hr14) eX7_passSecond_56 MX7_171 ⟨0, 7, _, _, rfl, rfl, rfl⟩ [0, 1, 2, 3, 4, 5] rfl rfl rfl rfl [6, 7, 8] rfl ⟨rfl, rfl, rfl, trivial⟩ 9 rfl rfl rfl rfl rfl rfl ?_
    refine r_aload_n C eX7_passSecond_59 0 rfl rfl ?_
    refine r_aload_n C eX7_passSecond_60 1 rfl rfl ?_
    refine r_aload_n C eX7_passSecond_61 1 rfl rfl ?_
    refine r_bipush C (v := 100) eX7_passSecond_62 (by decide) ?_
    refine r_V_i (ws' := W_Sh (z_g x) a0 o0 r14 (gSh_harm v0) (q3.2.2.2) (gLi_place (gSh_lines v0)) (gLi_post (gSh_lines v0)) (gLi_length (gSh_lines v0)) ++ W_Qu (z_g x) a1 o1 (gQu_ints v1) (gQu_places v1) (gQu_strengths v1)) C (c_Qu_arm (z_l x) (z_g x) a1 o1 v1 100 _ rfl) eX7_passSecond_64 MX7_101 ⟨0, 4, _, _, rfl, rfl, rfl⟩ [6, 7, 8] rfl rfl rfl rfl [0, 1, 2, 3, 4, 5] rfl ⟨rfl, rfl, rfl, rfl, rfl, rfl, trivial⟩ 9 rfl rfl rfl rfl rfl rfl ?_
    obtain ⟨r15, hr15, hf⟩ := zlet_of hf
    refine r_V_v (ws' := W_Sh (z_g x) a0 o0 (r15.1) (r15.2) (q3.2.2.2) (gLi_place (gSh_lines v0)) (gLi_post (gSh_lines v0)) (gLi_length (gSh_lines v0)) ++ W_Qu (z_g x) a1 o1 (gQu_ints v1) (gQu_places v1) (gQu_strengths v1)) C (c_Sh_knock (z_l x) (z_g x) a0 o0 (r14, (gSh_harm v0), ((q3.2.2.2), (gLi_place (gSh_lines v0)), (gLi_post (gSh_lines v0)), (gLi_length (gSh_lines v0)))) a1 o1 v1 (f_Qu_arm v1 100) r15 hr15) eX7_passSecond_67 MX7_174 ⟨0, 7, _, _, rfl, rfl, rfl⟩ [0, 1, 2, 3, 4, 5, 6, 7, 8] rfl rfl rfl rfl [] rfl trivial 9 rfl rfl rfl rfl rfl rfl ?_
    refine r_aload_n C eX7_passSecond_70 0 rfl rfl ?_
    refine r_aload_n C eX7_passSecond_71 1 rfl rfl ?_
    refine r_aload_n C eX7_passSecond_72 1 rfl rfl ?_
    refine r_bipush C (v := (-100)) eX7_passSecond_73 (by decide) ?_
    refine r_V_i (ws' := W_Sh (z_g x) a0 o0 (r15.1) (r15.2) (q3.2.2.2) (gLi_place (gSh_lines v0)) (gLi_post (gSh_lines v0)) (gLi_length (gSh_lines v0)) ++ W_Qu (z_g x) a1 o1 (gQu_ints v1) (gQu_places v1) (gQu_strengths v1)) C (c_Qu_arm (z_l x) (z_g x) a1 o1 v1 (-100) _ rfl) eX7_passSecond_75 MX7_101 ⟨0, 4, _, _, rfl, rfl, rfl⟩ [6, 7, 8] rfl rfl rfl rfl [0, 1, 2, 3, 4, 5] rfl ⟨rfl, rfl, rfl, rfl, rfl, rfl, trivial⟩ 9 rfl rfl rfl rfl rfl rfl ?_
    obtain ⟨r16, hr16, hf⟩ := zlet_of hf
    refine r_V_v (ws' := W_Sh (z_g x) a0 o0 (r16.1) (r16.2) (q3.2.2.2) (gLi_place (gSh_lines v0)) (gLi_post (gSh_lines v0)) (gLi_length (gSh_lines v0)) ++ W_Qu (z_g x) a1 o1 (gQu_ints v1) (gQu_places v1) (gQu_strengths v1)) C (c_Sh_knock (z_l x) (z_g x) a0 o0 ((r15.1), (r15.2), ((q3.2.2.2), (gLi_place (gSh_lines v0)), (gLi_post (gSh_lines v0)), (gLi_length (gSh_lines v0)))) a1 o1 v1 (f_Qu_arm v1 (-100)) r16 hr16) eX7_passSecond_78 MX7_174 ⟨0, 7, _, _, rfl, rfl, rfl⟩ [0, 1, 2, 3, 4, 5, 6, 7, 8] rfl rfl rfl rfl [] rfl trivial 9 rfl rfl rfl rfl rfl rfl ?_
    refine r_aload_n C eX7_passSecond_81 0 rfl rfl ?_
    refine r_aload_n C eX7_passSecond_82 1 rfl rfl ?_
    obtain ⟨r17, hr17, hf⟩ := zlet_of hf
    refine r_V_v (ws' := W_Sh (z_g x) a0 o0 (r17.1) (r17.2) (q3.2.2.2) (gLi_place (gSh_lines v0)) (gLi_post (gSh_lines v0)) (gLi_length (gSh_lines v0)) ++ W_Qu (z_g x) a1 o1 (gQu_ints v1) (gQu_places v1) (gQu_strengths v1)) C (c_Sh_stopAtGap (z_l x) (z_g x) a0 o0 ((r16.1), (r16.2), ((q3.2.2.2), (gLi_place (gSh_lines v0)), (gLi_post (gSh_lines v0)), (gLi_length (gSh_lines v0)))) a1 o1 v1  r17 hr17) eX7_passSecond_83 MX7_178 ⟨0, 7, _, _, rfl, rfl, rfl⟩ [0, 1, 2, 3, 4, 5, 6, 7, 8] rfl rfl rfl rfl [] rfl trivial 9 rfl rfl rfl rfl rfl rfl ?_
    refine r_aload_n C eX7_passSecond_86 0 rfl rfl ?_
    refine r_get (v := .int ((r17.1) 1)) C eX7_passSecond_87 FX7_31 0 rfl rfl ?_
    refine r_sipush C (v := 30000) eX7_passSecond_90 (by decide) ?_
    refine r_icmp_le C eX7_passSecond_93 (fun c18 => ?_) (fun c18 => ?_)
    · rw [if_pos c18] at hf
      refine r_iload_n C eX7_passSecond_115 2 rfl rfl ?_
      obtain rfl := Option.some.inj (show some (((q3.1), (r17.1), (r17.2), (q3.2.2.2)) : Int32 × (Nat → Int32) × Int64 × (Nat → Int32)) = some _ from hf)
      exact hret _ _ _ eX7_passSecond_116
    · rw [if_neg c18] at hf
      refine r_aload_n C eX7_passSecond_96 0 rfl rfl ?_
      refine r_sipush C (v := 30000) eX7_passSecond_97 (by decide) ?_
      refine r_put (ws' := W_Sh (z_g x) a0 o0 (upd (r17.1) 1 30000) (r17.2) (q3.2.2.2) (gLi_place (gSh_lines v0)) (gLi_post (gSh_lines v0)) (gLi_length (gSh_lines v0)) ++ W_Qu (z_g x) a1 o1 (gQu_ints v1) (gQu_places v1) (gQu_strengths v1)) C eX7_passSecond_100 PX7_31 0 rfl rfl rfl (Nat.le_of_ble_eq_true rfl) rfl ?_
      refine r_aload_n C eX7_passSecond_103 0 rfl rfl ?_
      refine r_iconst C (v := 0) eX7_passSecond_104 (by decide) ?_
      refine r_aload_n C eX7_passSecond_105 0 rfl rfl ?_
      refine r_get (v := .int ((r17.1) 4)) C eX7_passSecond_106 FX7_67 0 rfl rfl ?_
      refine r_mmax C eX7_passSecond_109 MX7_90 rfl ?_
      obtain ⟨z19, hz19, hf⟩ := zlet_of hf
      refine r_nami hz19 ?_
      refine r_put (ws' := W_Sh (z_g x) a0 o0 (upd (upd (r17.1) 1 30000) 4 z19) (r17.2) (q3.2.2.2) (gLi_place (gSh_lines v0)) (gLi_post (gSh_lines v0)) (gLi_length (gSh_lines v0)) ++ W_Qu (z_g x) a1 o1 (gQu_ints v1) (gQu_places v1) (gQu_strengths v1)) C eX7_passSecond_112 PX7_67 0 rfl rfl rfl (Nat.le_of_ble_eq_true rfl) rfl ?_
      refine r_iload_n C eX7_passSecond_115 2 rfl rfl ?_
      obtain rfl := Option.some.inj (show some (((q3.1), (upd (upd (r17.1) 1 30000) 4 z19), (r17.2), (q3.2.2.2)) : Int32 × (Nat → Int32) × Int64 × (Nat → Int32)) = some _ from hf)
      exact hret _ _ _ eX7_passSecond_116
  have L6 : ∀ (nL6 : Nat) (s2 : Int32 × Int32 × (Nat → Int32) × (Nat → Int32)), lp (fB_Sh_passSecond_9 v0 v1) nL6 s2 = some q3 → vV x 4 0 0 (W_Sh (z_g x) a0 o0 (s2.2.2.1) (gSh_harm v0) (s2.2.2.2) (gLi_place (gSh_lines v0)) (gLi_post (gSh_lines v0)) (gLi_length (gSh_lines v0)) ++ W_Qu (z_g x) a1 o1 (gQu_ints v1) (gQu_places v1) (gQu_strengths v1)) 9 [(0, .ref (a0 o0)), (1, .ref (a1 o1)), (2, .int (s2.1)), (3, .int (s2.2.1))] [] := by
    intro nL6
    induction nL6 with
    | zero => intro s2 hq; cases hq
    | succ nL6 ihL6 =>
      intro s2 hbL6
      rw [lp_succ, fB_Sh_passSecond_9] at hbL6
      refine r_iload_n C eX7_passSecond_9 3 rfl rfl ?_
      refine r_bipush C (v := 6) eX7_passSecond_10 (by decide) ?_
      refine r_icmp_ge C eX7_passSecond_12 (fun c7 => ?_) (fun c7 => ?_)
      · rw [if_pos c7] at hbL6
        obtain rfl := Option.some.inj hbL6
        refine r_sub (lv' := [(0, .ref (a0 o0)), (1, .ref (a1 o1)), (2, .int (s2.1))]) [0, 1, 2] rfl ?_
        exact J5
      · rw [if_neg c7] at hbL6
        refine r_aload_n C eX7_passSecond_15 0 rfl rfl ?_
        refine r_get (v := .ref (a0 (o0 + 1))) C eX7_passSecond_16 FX7_10 0 rfl rfl ?_
        refine r_get (v := .ref (a0 ((o0 + 1) + 1))) C eX7_passSecond_19 FX7_163 1 rfl rfl ?_
        refine r_iload_n C eX7_passSecond_22 3 rfl rfl ?_
        obtain ⟨hb8, hbL6⟩ := zchk hbL6
        refine r_zald C eX7_passSecond_23 2 rfl (inb_in hb8) ((s2.2.2.2) (ix (s2.2.1))) rfl ?_
        refine r_if_eq C eX7_passSecond_24 (fun c9 => ?_) (fun c9 => ?_)
        · rw [if_pos c9] at hbL6
          refine r_iinc C (v := ((s2.2.1) + 1)) [(3, .int ((s2.2.1) + 1)), (0, .ref (a0 o0)), (1, .ref (a1 o1)), (2, .int (s2.1))] eX7_passSecond_49 3 rfl rfl (by decide) rfl ?_
          refine r_goto C eX7_passSecond_52 ?_
          refine r_sub (lv' := [(0, .ref (a0 o0)), (1, .ref (a1 o1)), (2, .int (s2.1)), (3, .int ((s2.2.1) + 1))]) [1, 2, 3, 0] rfl ?_
          have hc := ihL6 ((s2.1), ((s2.2.1) + 1), (s2.2.2.1), (s2.2.2.2)) hbL6
          exact hc
        · rw [if_neg c9] at hbL6
          refine r_aload_n C eX7_passSecond_27 0 rfl rfl ?_
          refine r_aload_n C eX7_passSecond_28 1 rfl rfl ?_
          refine r_iload_n C eX7_passSecond_29 3 rfl rfl ?_
          obtain ⟨r10, hr10, hbL6⟩ := zbind hbL6
          refine r_V_z (ws' := W_Sh (z_g x) a0 o0 (r10.2) (gSh_harm v0) (s2.2.2.2) (gLi_place (gSh_lines v0)) (gLi_post (gSh_lines v0)) (gLi_length (gSh_lines v0)) ++ W_Qu (z_g x) a1 o1 (gQu_ints v1) (gQu_places v1) (gQu_strengths v1)) C (c_Sh_gainByLine (z_l x) (z_g x) a0 o0 ((s2.2.2.1), (gSh_harm v0), ((s2.2.2.2), (gLi_place (gSh_lines v0)), (gLi_post (gSh_lines v0)), (gLi_length (gSh_lines v0)))) a1 o1 v1 (s2.2.1) r10 hr10) eX7_passSecond_30 MX7_167 ⟨0, 7, _, _, rfl, rfl, rfl⟩ [0, 1, 2, 3, 4, 5, 6, 7, 8] rfl rfl rfl rfl [] rfl trivial 9 rfl rfl rfl rfl rfl rfl (fun zb11 => ?_)
          refine r_if_ne C eX7_passSecond_33 (fun c12 => ?_) (fun c12 => ?_)
          · rw [if_neg c12] at hbL6
            refine r_iinc C (v := ((s2.2.1) + 1)) [(3, .int ((s2.2.1) + 1)), (0, .ref (a0 o0)), (1, .ref (a1 o1)), (2, .int (s2.1))] eX7_passSecond_49 3 rfl rfl (by decide) rfl ?_
            refine r_goto C eX7_passSecond_52 ?_
            refine r_sub (lv' := [(0, .ref (a0 o0)), (1, .ref (a1 o1)), (2, .int (s2.1)), (3, .int ((s2.2.1) + 1))]) [1, 2, 3, 0] rfl ?_
            have hc := ihL6 ((s2.1), ((s2.2.1) + 1), (r10.2), (s2.2.2.2)) hbL6
            exact hc
          · rw [if_pos c12] at hbL6
            refine r_aload_n C eX7_passSecond_36 0 rfl rfl ?_
            refine r_get (v := .ref (a0 (o0 + 1))) C eX7_passSecond_37 FX7_10 0 rfl rfl ?_
            refine r_get (v := .ref (a0 ((o0 + 1) + 1))) C eX7_passSecond_40 FX7_163 1 rfl rfl ?_
            refine r_iload_n C eX7_passSecond_43 3 rfl rfl ?_
            refine r_iconst C (v := 0) eX7_passSecond_44 (by decide) ?_
            obtain ⟨hb13, hbL6⟩ := zchk hbL6
            refine r_zast (ws' := W_Sh (z_g x) a0 o0 (r10.2) (gSh_harm v0) (upd (s2.2.2.2) (ix (s2.2.1)) (vp_nar .boolean 0)) (gLi_place (gSh_lines v0)) (gLi_post (gSh_lines v0)) (gLi_length (gSh_lines v0)) ++ W_Qu (z_g x) a1 o1 (gQu_ints v1) (gQu_places v1) (gQu_strengths v1)) C eX7_passSecond_45 2 rfl (inb_in hb13) rfl ?_
            refine r_iinc C (v := ((s2.1) + 1)) [(2, .int ((s2.1) + 1)), (0, .ref (a0 o0)), (1, .ref (a1 o1)), (3, .int (s2.2.1))] eX7_passSecond_46 2 rfl rfl (by decide) rfl ?_
            refine r_iinc C (v := ((s2.2.1) + 1)) [(3, .int ((s2.2.1) + 1)), (2, .int ((s2.1) + 1)), (0, .ref (a0 o0)), (1, .ref (a1 o1))] eX7_passSecond_49 3 rfl rfl (by decide) rfl ?_
            refine r_goto C eX7_passSecond_52 ?_
            refine r_sub (lv' := [(0, .ref (a0 o0)), (1, .ref (a1 o1)), (2, .int ((s2.1) + 1)), (3, .int ((s2.2.1) + 1))]) [2, 3, 1, 0] rfl ?_
            have hc := ihL6 (((s2.1) + 1), ((s2.2.1) + 1), (r10.2), (upd (s2.2.2.2) (ix (s2.2.1)) (vp_nar .boolean 0))) hbL6
            exact hc
  refine r_sub (lv' := [(0, .ref (a0 o0)), (1, .ref (a1 o1)), (2, .int 0), (3, .int 0)]) [2, 3, 1, 0] rfl ?_
  have hc := L6 LF (0, 0, r1, (gLi_fast (gSh_lines v0))) h4
  exact hc
theorem eX7_passByPlan_0 : zd 1 cX7_passByPlan 0 1 (.iconst 0) := ⟨by decide +kernel, rfl⟩
theorem eX7_passByPlan_1 : zd 2 cX7_passByPlan 1 3 (.istore 4) := ⟨by decide +kernel, rfl⟩
theorem eX7_passByPlan_3 : zd 1 cX7_passByPlan 3 4 (.iconst 0) := ⟨by decide +kernel, rfl⟩
theorem eX7_passByPlan_4 : zd 2 cX7_passByPlan 4 6 (.istore 5) := ⟨by decide +kernel, rfl⟩
theorem eX7_passByPlan_6 : zd 1 cX7_passByPlan 6 7 (.iconst 0) := ⟨by decide +kernel, rfl⟩
theorem eX7_passByPlan_7 : zd 2 cX7_passByPlan 7 9 (.istore 6) := ⟨by decide +kernel, rfl⟩
theorem eX7_passByPlan_9 : zd 2 cX7_passByPlan 9 11 (.iload 6) := ⟨by decide +kernel, rfl⟩
theorem eX7_passByPlan_11 : zd 1 cX7_passByPlan 11 12 (.iload_n 3) := ⟨by decide +kernel, rfl⟩
theorem eX7_passByPlan_12 : zdi cX7_passByPlan 12 15 42 (.if_icmp .ge) := ⟨30, by decide +kernel, rfl, by decide⟩
theorem eX7_passByPlan_15 : zd 1 cX7_passByPlan 15 16 (.aload_n 2) := ⟨by decide +kernel, rfl⟩
theorem eX7_passByPlan_16 : zd 1 cX7_passByPlan 16 17 (.aload_n 0) := ⟨by decide +kernel, rfl⟩
theorem eX7_passByPlan_17 : zd 2 cX7_passByPlan 17 19 (.iload 5) := ⟨by decide +kernel, rfl⟩
theorem eX7_passByPlan_19 : zd 2 cX7_passByPlan 19 21 (.iload 6) := ⟨by decide +kernel, rfl⟩
theorem eX7_passByPlan_21 : zd 3 cX7_passByPlan 21 24 (.invokevirtual 149) := ⟨by decide +kernel, rfl⟩
theorem eX7_passByPlan_24 : zd 2 cX7_passByPlan 24 26 (.istore 5) := ⟨by decide +kernel, rfl⟩
theorem eX7_passByPlan_26 : zd 2 cX7_passByPlan 26 28 (.iload 4) := ⟨by decide +kernel, rfl⟩
theorem eX7_passByPlan_28 : zd 1 cX7_passByPlan 28 29 (.aload_n 0) := ⟨by decide +kernel, rfl⟩
theorem eX7_passByPlan_29 : zd 1 cX7_passByPlan 29 30 (.aload_n 1) := ⟨by decide +kernel, rfl⟩
theorem eX7_passByPlan_30 : zd 3 cX7_passByPlan 30 33 (.invokevirtual 155) := ⟨by decide +kernel, rfl⟩
theorem eX7_passByPlan_33 : zd 1 cX7_passByPlan 33 34 (.iadd) := ⟨by decide +kernel, rfl⟩
theorem eX7_passByPlan_34 : zd 2 cX7_passByPlan 34 36 (.istore 4) := ⟨by decide +kernel, rfl⟩
theorem eX7_passByPlan_36 : zd 3 cX7_passByPlan 36 39 (.iinc 6 1) := ⟨by decide +kernel, rfl⟩
theorem eX7_passByPlan_39 : zdi cX7_passByPlan 39 42 9 (.goto) := ⟨(-30), by decide +kernel, rfl, by decide⟩
theorem eX7_passByPlan_42 : zd 2 cX7_passByPlan 42 44 (.iload 4) := ⟨by decide +kernel, rfl⟩
theorem eX7_passByPlan_44 : zd 1 cX7_passByPlan 44 45 (.ireturn) := ⟨by decide +kernel, rfl⟩
theorem MX7_149 : zlV RX7 149 yX3_steer cX3_steer 4 ((Option.some FieldType.int)) 3 := ⟨q782, q783, q784, q5, q785, by decide, by decide, by decide +kernel⟩
theorem MX7_155 : zlV RX7 155 yX7_passSecond cX7_passSecond 4 ((Option.some FieldType.int)) 1 := ⟨q786, q721, q722, q7, q723, by decide, by decide, by decide +kernel⟩
noncomputable def fB_Sh_passByPlan_9 (v0 : tSh) (v1 : tQu) (v2 : tPl) (p1 : Int32) (ih : (Int32 × Int32 × Int32 × (Nat → Int32) × Int64 × (Nat → Int32)) → Option (Int32 × Int32 × Int32 × (Nat → Int32) × Int64 × (Nat → Int32))) (s1 : Int32 × Int32 × Int32 × (Nat → Int32) × Int64 × (Nat → Int32)) : Option (Int32 × Int32 × Int32 × (Nat → Int32) × Int64 × (Nat → Int32)) := (if p1 ≤ (s1.2.2.1) then (some ((s1.1), (s1.2.1), (s1.2.2.1), (s1.2.2.2.1), (s1.2.2.2.2.1), (s1.2.2.2.2.2))) else (Option.bind (f_Pl_steer v2 ((s1.2.2.2.1), (s1.2.2.2.2.1), ((s1.2.2.2.2.2), (gLi_place (gSh_lines v0)), (gLi_post (gSh_lines v0)), (gLi_length (gSh_lines v0)))) (s1.2.1) (s1.2.2.1)) (fun (r7 : Int32 × (Nat → Int32)) => (Option.bind (f_Sh_passSecond ((r7.2), (s1.2.2.2.2.1), ((s1.2.2.2.2.2), (gLi_place (gSh_lines v0)), (gLi_post (gSh_lines v0)), (gLi_length (gSh_lines v0)))) v1) (fun (r8 : Int32 × (Nat → Int32) × Int64 × (Nat → Int32)) => (zlet ((s1.1) + (r8.1)) (fun (z9 : Int32) => (ih (z9, (r7.1), ((s1.2.2.1) + 1), (r8.2.1), (r8.2.2.1), (r8.2.2.2))))))))))
noncomputable def f_Sh_passByPlan (v0 : tSh) (v1 : tQu) (v2 : tPl) (p1 : Int32) : Option (Int32 × (Nat → Int32) × Int64 × (Nat → Int32)) := (Option.bind (lp (fB_Sh_passByPlan_9 v0 v1 v2 p1) LF (0, 0, 0, (gSh_ints v0), (gSh_harm v0), (gLi_fast (gSh_lines v0)))) (fun (q2 : Int32 × Int32 × Int32 × (Nat → Int32) × Int64 × (Nat → Int32)) => (some ((q2.1), (q2.2.2.2.1), (q2.2.2.2.2.1), (q2.2.2.2.2.2)))))
abbrev rm_Sh_passByPlan : Room := { frames := 4, cells := 0, slots := 0, locals := 102 }
set_option maxHeartbeats 4000000 in
set_option maxRecDepth 100000 in
theorem c_Sh_passByPlan (l : Launch) (g : zGl) (a0 : Nat → Nat) (o0 : Nat) (v0 : tSh) (a1 : Nat → Nat) (o1 : Nat) (v1 : tQu) (a2 : Nat → Nat) (o2 : Nat) (v2 : tPl) (p1 : Int32) (out : Int32 × (Nat → Int32) × Int64 × (Nat → Int32)) (hf : f_Sh_passByPlan v0 v1 v2 p1 = some out) : zMi l yX7_passByPlan cX7_passByPlan 7 rm_Sh_passByPlan g [.ref (a0 o0), .ref (a1 o1), .ref (a2 o2), .int p1] (W_Sh g a0 o0 (gSh_ints v0) (gSh_harm v0) (gLi_fast (gSh_lines v0)) (gLi_place (gSh_lines v0)) (gLi_post (gSh_lines v0)) (gLi_length (gSh_lines v0)) ++ W_Qu g a1 o1 (gQu_ints v1) (gQu_places v1) (gQu_strengths v1) ++ W_Pl g a2 o2 (gPl_ints v2) (gPl_seconds v2) (gPl_engines v2) (gPl_wheels v2)) (out.1) (W_Sh g a0 o0 (out.2.1) (out.2.2.1) (out.2.2.2) (gLi_place (gSh_lines v0)) (gLi_post (gSh_lines v0)) (gLi_length (gSh_lines v0)) ++ W_Qu g a1 o1 (gQu_ints v1) (gQu_places v1) (gQu_strengths v1) ++ W_Pl g a2 o2 (gPl_ints v2) (gPl_seconds v2) (gPl_engines v2) (gPl_wheels v2)) := by
  refine zMi_of (lv := [(0, .ref (a0 o0)), (1, .ref (a1 o1)), (2, .ref (a2 o2)), (3, .int p1)]) (by decide) (Nat.le_of_ble_eq_true rfl) rfl (fun x hl hg C hret => ?_)
  subst hl; subst hg
  rw [f_Sh_passByPlan] at hf
  refine r_iconst C (v := 0) eX7_passByPlan_0 (by decide) ?_
  refine r_istore C [(4, .int 0), (0, .ref (a0 o0)), (1, .ref (a1 o1)), (2, .ref (a2 o2)), (3, .int p1)] eX7_passByPlan_1 (by decide) rfl ?_
  refine r_iconst C (v := 0) eX7_passByPlan_3 (by decide) ?_
  refine r_istore C [(5, .int 0), (4, .int 0), (0, .ref (a0 o0)), (1, .ref (a1 o1)), (2, .ref (a2 o2)), (3, .int p1)] eX7_passByPlan_4 (by decide) rfl ?_
  refine r_iconst C (v := 0) eX7_passByPlan_6 (by decide) ?_
  refine r_istore C [(6, .int 0), (5, .int 0), (4, .int 0), (0, .ref (a0 o0)), (1, .ref (a1 o1)), (2, .ref (a2 o2)), (3, .int p1)] eX7_passByPlan_7 (by decide) rfl ?_
  obtain ⟨q2, h3, hf⟩ := zbind hf
  have J4 : vV x 7 0 0 (W_Sh (z_g x) a0 o0 (q2.2.2.2.1) (q2.2.2.2.2.1) (q2.2.2.2.2.2) (gLi_place (gSh_lines v0)) (gLi_post (gSh_lines v0)) (gLi_length (gSh_lines v0)) ++ W_Qu (z_g x) a1 o1 (gQu_ints v1) (gQu_places v1) (gQu_strengths v1) ++ W_Pl (z_g x) a2 o2 (gPl_ints v2) (gPl_seconds v2) (gPl_engines v2) (gPl_wheels v2)) 42 [(4, .int (q2.1))] [] := by
    refine r_iload C eX7_passByPlan_42 0 rfl ?_
    obtain rfl := Option.some.inj (show some (((q2.1), (q2.2.2.2.1), (q2.2.2.2.2.1), (q2.2.2.2.2.2)) : Int32 × (Nat → Int32) × Int64 × (Nat → Int32)) = some _ from hf)
    exact hret _ _ _ eX7_passByPlan_44
  have L5 : ∀ (nL5 : Nat) (s1 : Int32 × Int32 × Int32 × (Nat → Int32) × Int64 × (Nat → Int32)), lp (fB_Sh_passByPlan_9 v0 v1 v2 p1) nL5 s1 = some q2 → vV x 7 0 0 (W_Sh (z_g x) a0 o0 (s1.2.2.2.1) (s1.2.2.2.2.1) (s1.2.2.2.2.2) (gLi_place (gSh_lines v0)) (gLi_post (gSh_lines v0)) (gLi_length (gSh_lines v0)) ++ W_Qu (z_g x) a1 o1 (gQu_ints v1) (gQu_places v1) (gQu_strengths v1) ++ W_Pl (z_g x) a2 o2 (gPl_ints v2) (gPl_seconds v2) (gPl_engines v2) (gPl_wheels v2)) 9 [(0, .ref (a0 o0)), (1, .ref (a1 o1)), (2, .ref (a2 o2)), (3, .int p1), (4, .int (s1.1)), (5, .int (s1.2.1)), (6, .int (s1.2.2.1))] [] := by
    intro nL5
    induction nL5 with
    | zero => intro s1 hq; cases hq
    | succ nL5 ihL5 =>
      intro s1 hbL5
      rw [lp_succ, fB_Sh_passByPlan_9] at hbL5
      refine r_iload C eX7_passByPlan_9 6 rfl ?_
      refine r_iload_n C eX7_passByPlan_11 3 rfl rfl ?_
      refine r_icmp_ge C eX7_passByPlan_12 (fun c6 => ?_) (fun c6 => ?_)
      · rw [if_pos c6] at hbL5
        obtain rfl := Option.some.inj hbL5
        refine r_sub (lv' := [(4, .int (s1.1))]) [4] rfl ?_
        exact J4
      · rw [if_neg c6] at hbL5
        refine r_aload_n C eX7_passByPlan_15 2 rfl rfl ?_
        refine r_aload_n C eX7_passByPlan_16 0 rfl rfl ?_
        refine r_iload C eX7_passByPlan_17 5 rfl ?_
        refine r_iload C eX7_passByPlan_19 6 rfl ?_
        obtain ⟨r7, hr7, hbL5⟩ := zbind hbL5
        refine r_V_i (ws' := W_Sh (z_g x) a0 o0 (r7.2) (s1.2.2.2.2.1) (s1.2.2.2.2.2) (gLi_place (gSh_lines v0)) (gLi_post (gSh_lines v0)) (gLi_length (gSh_lines v0)) ++ W_Qu (z_g x) a1 o1 (gQu_ints v1) (gQu_places v1) (gQu_strengths v1) ++ W_Pl (z_g x) a2 o2 (gPl_ints v2) (gPl_seconds v2) (gPl_engines v2) (gPl_wheels v2)) C (c_Pl_steer (z_l x) (z_g x) a2 o2 v2 a0 o0 ((s1.2.2.2.1), (s1.2.2.2.2.1), ((s1.2.2.2.2.2), (gLi_place (gSh_lines v0)), (gLi_post (gSh_lines v0)), (gLi_length (gSh_lines v0)))) (s1.2.1) (s1.2.2.1) r7 hr7) eX7_passByPlan_21 MX7_149 ⟨0, 3, _, _, rfl, rfl, rfl⟩ [9, 10, 11, 12, 0, 1, 2, 3, 4, 5] rfl rfl rfl rfl [6, 7, 8] rfl ⟨rfl, rfl, rfl, trivial⟩ 13 rfl rfl rfl rfl rfl rfl ?_
        refine r_istore C [(5, .int (r7.1)), (0, .ref (a0 o0)), (1, .ref (a1 o1)), (2, .ref (a2 o2)), (3, .int p1), (4, .int (s1.1)), (6, .int (s1.2.2.1))] eX7_passByPlan_24 (by decide) rfl ?_
        refine r_iload C eX7_passByPlan_26 5 rfl ?_
        refine r_aload_n C eX7_passByPlan_28 1 rfl rfl ?_
        refine r_aload_n C eX7_passByPlan_29 2 rfl rfl ?_
        obtain ⟨r8, hr8, hbL5⟩ := zbind hbL5
        refine r_V_i (ws' := W_Sh (z_g x) a0 o0 (r8.2.1) (r8.2.2.1) (r8.2.2.2) (gLi_place (gSh_lines v0)) (gLi_post (gSh_lines v0)) (gLi_length (gSh_lines v0)) ++ W_Qu (z_g x) a1 o1 (gQu_ints v1) (gQu_places v1) (gQu_strengths v1) ++ W_Pl (z_g x) a2 o2 (gPl_ints v2) (gPl_seconds v2) (gPl_engines v2) (gPl_wheels v2)) C (c_Sh_passSecond (z_l x) (z_g x) a0 o0 ((r7.2), (s1.2.2.2.2.1), ((s1.2.2.2.2.2), (gLi_place (gSh_lines v0)), (gLi_post (gSh_lines v0)), (gLi_length (gSh_lines v0)))) a1 o1 v1  r8 hr8) eX7_passByPlan_30 MX7_155 ⟨0, 7, _, _, rfl, rfl, rfl⟩ [0, 1, 2, 3, 4, 5, 6, 7, 8] rfl rfl rfl rfl [9, 10, 11, 12] rfl ⟨rfl, rfl, rfl, rfl, trivial⟩ 13 rfl rfl rfl rfl rfl rfl ?_
        refine r_iadd C eX7_passByPlan_33 ?_
        obtain ⟨z9, hz9, hbL5⟩ := zlet_of hbL5
        refine r_nami hz9 ?_
        refine r_istore C [(4, .int z9), (5, .int (r7.1)), (0, .ref (a0 o0)), (1, .ref (a1 o1)), (2, .ref (a2 o2)), (3, .int p1), (6, .int (s1.2.2.1))] eX7_passByPlan_34 (by decide) rfl ?_
        refine r_iinc C (v := ((s1.2.2.1) + 1)) [(6, .int ((s1.2.2.1) + 1)), (4, .int z9), (5, .int (r7.1)), (0, .ref (a0 o0)), (1, .ref (a1 o1)), (2, .ref (a2 o2)), (3, .int p1)] eX7_passByPlan_36 6 rfl rfl (by decide) rfl ?_
        refine r_goto C eX7_passByPlan_39 ?_
        refine r_sub (lv' := [(0, .ref (a0 o0)), (1, .ref (a1 o1)), (2, .ref (a2 o2)), (3, .int p1), (4, .int z9), (5, .int (r7.1)), (6, .int ((s1.2.2.1) + 1))]) [3, 4, 5, 6, 1, 2, 0] rfl ?_
        have hc := ihL5 (z9, (r7.1), ((s1.2.2.1) + 1), (r8.2.1), (r8.2.2.1), (r8.2.2.2)) hbL5
        exact hc
  refine r_sub (lv' := [(0, .ref (a0 o0)), (1, .ref (a1 o1)), (2, .ref (a2 o2)), (3, .int p1), (4, .int 0), (5, .int 0), (6, .int 0)]) [3, 4, 5, 6, 2, 1, 0] rfl ?_
  have hc := L5 LF (0, 0, 0, (gSh_ints v0), (gSh_harm v0), (gLi_fast (gSh_lines v0))) h3
  exact hc
