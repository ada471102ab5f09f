theorem eX6_stopsSafely_0 : zd 1 cX6_stopsSafely 0 1 (.aload_n 0) := ⟨by decide +kernel, rfl⟩
theorem eX6_stopsSafely_1 : zd 3 cX6_stopsSafely 1 4 (.getfield 18) := ⟨by decide +kernel, rfl⟩
theorem eX6_stopsSafely_4 : zd 1 cX6_stopsSafely 4 5 (.aload_n 0) := ⟨by decide +kernel, rfl⟩
theorem eX6_stopsSafely_5 : zd 3 cX6_stopsSafely 5 8 (.getfield 12) := ⟨by decide +kernel, rfl⟩
theorem eX6_stopsSafely_8 : zd 3 cX6_stopsSafely 8 11 (.invokevirtual 28) := ⟨by decide +kernel, rfl⟩
theorem eX6_stopsSafely_11 : zd 1 cX6_stopsSafely 11 12 (.aload_n 0) := ⟨by decide +kernel, rfl⟩
theorem eX6_stopsSafely_12 : zd 3 cX6_stopsSafely 12 15 (.getfield 18) := ⟨by decide +kernel, rfl⟩
theorem eX6_stopsSafely_15 : zd 2 cX6_stopsSafely 15 17 (.bipush (-2)) := ⟨by decide +kernel, rfl⟩
theorem eX6_stopsSafely_17 : zd 3 cX6_stopsSafely 17 20 (.putfield 44) := ⟨by decide +kernel, rfl⟩
theorem eX6_stopsSafely_20 : zd 1 cX6_stopsSafely 20 21 (.aload_n 0) := ⟨by decide +kernel, rfl⟩
theorem eX6_stopsSafely_21 : zd 3 cX6_stopsSafely 21 24 (.getfield 18) := ⟨by decide +kernel, rfl⟩
theorem eX6_stopsSafely_24 : zd 1 cX6_stopsSafely 24 25 (.iconst 0) := ⟨by decide +kernel, rfl⟩
theorem eX6_stopsSafely_25 : zd 3 cX6_stopsSafely 25 28 (.putfield 48) := ⟨by decide +kernel, rfl⟩
theorem eX6_stopsSafely_28 : zd 1 cX6_stopsSafely 28 29 (.iconst 0) := ⟨by decide +kernel, rfl⟩
theorem eX6_stopsSafely_29 : zd 1 cX6_stopsSafely 29 30 (.istore_n 2) := ⟨by decide +kernel, rfl⟩
theorem eX6_stopsSafely_30 : zd 1 cX6_stopsSafely 30 31 (.iload_n 2) := ⟨by decide +kernel, rfl⟩
theorem eX6_stopsSafely_31 : zd 2 cX6_stopsSafely 31 33 (.bipush 60) := ⟨by decide +kernel, rfl⟩
theorem eX6_stopsSafely_33 : zdi cX6_stopsSafely 33 36 87 (.if_icmp .ge) := ⟨54, by decide +kernel, rfl, by decide⟩
theorem eX6_stopsSafely_36 : zd 1 cX6_stopsSafely 36 37 (.aload_n 0) := ⟨by decide +kernel, rfl⟩
theorem eX6_stopsSafely_37 : zd 3 cX6_stopsSafely 37 40 (.getfield 18) := ⟨by decide +kernel, rfl⟩
theorem eX6_stopsSafely_40 : zd 3 cX6_stopsSafely 40 43 (.getfield 32) := ⟨by decide +kernel, rfl⟩
theorem eX6_stopsSafely_43 : zd 1 cX6_stopsSafely 43 44 (.aload_n 0) := ⟨by decide +kernel, rfl⟩
theorem eX6_stopsSafely_44 : zd 3 cX6_stopsSafely 44 47 (.getfield 12) := ⟨by decide +kernel, rfl⟩
theorem eX6_stopsSafely_47 : zd 3 cX6_stopsSafely 47 50 (.getfield 32) := ⟨by decide +kernel, rfl⟩
theorem eX6_stopsSafely_50 : zd 1 cX6_stopsSafely 50 51 (.lcmp) := ⟨by decide +kernel, rfl⟩
theorem eX6_stopsSafely_51 : zdi cX6_stopsSafely 51 54 87 (.ifCond .ne) := ⟨36, by decide +kernel, rfl, by decide⟩
theorem eX6_stopsSafely_54 : zd 1 cX6_stopsSafely 54 55 (.aload_n 0) := ⟨by decide +kernel, rfl⟩
theorem eX6_stopsSafely_55 : zd 3 cX6_stopsSafely 55 58 (.getfield 18) := ⟨by decide +kernel, rfl⟩
theorem eX6_stopsSafely_58 : zd 3 cX6_stopsSafely 58 61 (.getfield 51) := ⟨by decide +kernel, rfl⟩
theorem eX6_stopsSafely_61 : zdi cX6_stopsSafely 61 64 72 (.ifCond .gt) := ⟨11, by decide +kernel, rfl, by decide⟩
theorem eX6_stopsSafely_64 : zd 1 cX6_stopsSafely 64 65 (.aload_n 0) := ⟨by decide +kernel, rfl⟩
theorem eX6_stopsSafely_65 : zd 3 cX6_stopsSafely 65 68 (.getfield 18) := ⟨by decide +kernel, rfl⟩
theorem eX6_stopsSafely_68 : zd 1 cX6_stopsSafely 68 69 (.iconst 0) := ⟨by decide +kernel, rfl⟩
theorem eX6_stopsSafely_69 : zd 3 cX6_stopsSafely 69 72 (.putfield 44) := ⟨by decide +kernel, rfl⟩
theorem eX6_stopsSafely_72 : zd 1 cX6_stopsSafely 72 73 (.aload_n 0) := ⟨by decide +kernel, rfl⟩
theorem eX6_stopsSafely_73 : zd 3 cX6_stopsSafely 73 76 (.getfield 18) := ⟨by decide +kernel, rfl⟩
theorem eX6_stopsSafely_76 : zd 1 cX6_stopsSafely 76 77 (.aload_n 1) := ⟨by decide +kernel, rfl⟩
theorem eX6_stopsSafely_77 : zd 3 cX6_stopsSafely 77 80 (.invokevirtual 40) := ⟨by decide +kernel, rfl⟩
theorem eX6_stopsSafely_80 : zd 1 cX6_stopsSafely 80 81 (.pop) := ⟨by decide +kernel, rfl⟩
theorem eX6_stopsSafely_81 : zd 3 cX6_stopsSafely 81 84 (.iinc 2 1) := ⟨by decide +kernel, rfl⟩
theorem eX6_stopsSafely_84 : zdi cX6_stopsSafely 84 87 30 (.goto) := ⟨(-54), by decide +kernel, rfl, by decide⟩
theorem eX6_stopsSafely_87 : zd 1 cX6_stopsSafely 87 88 (.aload_n 0) := ⟨by decide +kernel, rfl⟩
theorem eX6_stopsSafely_88 : zd 3 cX6_stopsSafely 88 91 (.getfield 18) := ⟨by decide +kernel, rfl⟩
theorem eX6_stopsSafely_91 : zd 3 cX6_stopsSafely 91 94 (.getfield 32) := ⟨by decide +kernel, rfl⟩
theorem eX6_stopsSafely_94 : zd 1 cX6_stopsSafely 94 95 (.aload_n 0) := ⟨by decide +kernel, rfl⟩
theorem eX6_stopsSafely_95 : zd 3 cX6_stopsSafely 95 98 (.getfield 12) := ⟨by decide +kernel, rfl⟩
theorem eX6_stopsSafely_98 : zd 3 cX6_stopsSafely 98 101 (.getfield 32) := ⟨by decide +kernel, rfl⟩
theorem eX6_stopsSafely_101 : zd 1 cX6_stopsSafely 101 102 (.lcmp) := ⟨by decide +kernel, rfl⟩
theorem eX6_stopsSafely_102 : zdi cX6_stopsSafely 102 105 120 (.ifCond .ne) := ⟨18, by decide +kernel, rfl, by decide⟩
theorem eX6_stopsSafely_105 : zd 1 cX6_stopsSafely 105 106 (.aload_n 0) := ⟨by decide +kernel, rfl⟩
theorem eX6_stopsSafely_106 : zd 3 cX6_stopsSafely 106 109 (.getfield 18) := ⟨by decide +kernel, rfl⟩
theorem eX6_stopsSafely_109 : zd 1 cX6_stopsSafely 109 110 (.aload_n 1) := ⟨by decide +kernel, rfl⟩
theorem eX6_stopsSafely_110 : zd 3 cX6_stopsSafely 110 113 (.invokevirtual 54) := ⟨by decide +kernel, rfl⟩
theorem eX6_stopsSafely_113 : zdi cX6_stopsSafely 113 116 120 (.ifCond .eq) := ⟨7, by decide +kernel, rfl, by decide⟩
theorem eX6_stopsSafely_116 : zd 1 cX6_stopsSafely 116 117 (.iconst 1) := ⟨by decide +kernel, rfl⟩
theorem eX6_stopsSafely_117 : zdi cX6_stopsSafely 117 120 121 (.goto) := ⟨4, by decide +kernel, rfl, by decide⟩
theorem eX6_stopsSafely_120 : zd 1 cX6_stopsSafely 120 121 (.iconst 0) := ⟨by decide +kernel, rfl⟩
theorem eX6_stopsSafely_121 : zd 1 cX6_stopsSafely 121 122 (.ireturn) := ⟨by decide +kernel, rfl⟩
theorem FX6_51 : zlF RX6 51 7 3 := ⟨(RX7, TX7, 18), rfl, by decide, q235, zin7⟩
noncomputable def fB_Se_stopsSafely_30 (v0 : tSe) (v1 : tQu) (r1 : (Nat → Int32) × Int64 × (Nat → Int32) × (Nat → Int32) × (Nat → Int32) × (Nat → Int32)) (ih : (Int32 × (Nat → Int32) × Int64 × (Nat → Int32)) → Option (Int32 × (Nat → Int32) × Int64 × (Nat → Int32))) (s2 : Int32 × (Nat → Int32) × Int64 × (Nat → Int32)) : Option (Int32 × (Nat → Int32) × Int64 × (Nat → Int32)) := (if 60 ≤ (s2.1) then (some ((s2.1), (s2.2.1), (s2.2.2.1), (s2.2.2.2))) else (if (s2.2.2.1) = (gSh_harm (gSe_base v0)) then (zlet (if 0 < ((s2.2.1) 3) then (s2.2.1) else (upd (s2.2.1) 6 0)) (fun (w9 : (Nat → Int32)) => (Option.bind (f_Sh_passSecond (w9, (s2.2.2.1), ((s2.2.2.2), (r1.2.2.2.1), (r1.2.2.2.2.1), (r1.2.2.2.2.2))) v1) (fun (r12 : Int32 × (Nat → Int32) × Int64 × (Nat → Int32)) => (ih (((s2.1) + 1), (r12.2.1), (r12.2.2.1), (r12.2.2.2))))))) else (some ((s2.1), (s2.2.1), (s2.2.2.1), (s2.2.2.2)))))
noncomputable def f_Se_stopsSafely (v0 : tSe) (v1 : tQu)  : Option (Int32 × (Nat → Int32) × Int64 × (Nat → Int32) × (Nat → Int32) × (Nat → Int32) × (Nat → Int32)) := (Option.bind (f_Sh_copyFrom (gSe_probe v0) (gSe_base v0)) (fun (r1 : (Nat → Int32) × Int64 × (Nat → Int32) × (Nat → Int32) × (Nat → Int32) × (Nat → Int32)) => (Option.bind (lp (fB_Se_stopsSafely_30 v0 v1 r1) LF (0, (upd (upd (r1.1) 6 (-2)) 7 0), (r1.2.1), (r1.2.2.1))) (fun (q3 : Int32 × (Nat → Int32) × Int64 × (Nat → Int32)) => (if (q3.2.2.1) = (gSh_harm (gSe_base v0)) then (if (f_Sh_isSafe ((q3.2.1), (q3.2.2.1), ((q3.2.2.2), (r1.2.2.2.1), (r1.2.2.2.2.1), (r1.2.2.2.2.2))) v1) = 0 then (some (0, (q3.2.1), (q3.2.2.1), (q3.2.2.2), (r1.2.2.2.1), (r1.2.2.2.2.1), (r1.2.2.2.2.2))) else (some (1, (q3.2.1), (q3.2.2.1), (q3.2.2.2), (r1.2.2.2.1), (r1.2.2.2.2.1), (r1.2.2.2.2.2)))) else (some (0, (q3.2.1), (q3.2.2.1), (q3.2.2.2), (r1.2.2.2.1), (r1.2.2.2.2.1), (r1.2.2.2.2.2))))))))
abbrev rm_Se_stopsSafely : Room := { frames := 4, cells := 0, slots := 0, locals := 102 }
set_option maxHeartbeats 4000000 in
set_option maxRecDepth 100000 in
theorem c_Se_stopsSafely (l : Launch) (g : zGl) (a0 : Nat → Nat) (o0 : Nat) (v0 : tSe) (a1 : Nat → Nat) (o1 : Nat) (v1 : tQu)  (out : Int32 × (Nat → Int32) × Int64 × (Nat → Int32) × (Nat → Int32) × (Nat → Int32) × (Nat → Int32)) (hf : f_Se_stopsSafely v0 v1 = some out) : zMz l yX6_stopsSafely cX6_stopsSafely 3 rm_Se_stopsSafely g [.ref (a0 o0), .ref (a1 o1)] (W_Se g a0 o0 (gSh_ints (gSe_base v0)) (gSh_harm (gSe_base v0)) (gLi_fast (gSh_lines (gSe_base v0))) (gLi_place (gSh_lines (gSe_base v0))) (gLi_post (gSh_lines (gSe_base v0))) (gLi_length (gSh_lines (gSe_base v0))) (gSh_ints (gSe_probe v0)) (gSh_harm (gSe_probe v0)) (gLi_fast (gSh_lines (gSe_probe v0))) (gLi_place (gSh_lines (gSe_probe v0))) (gLi_post (gSh_lines (gSe_probe v0))) (gLi_length (gSh_lines (gSe_probe v0))) (gQu_ints (gSe_other v0)) (gQu_places (gSe_other v0)) (gQu_strengths (gSe_other v0)) ++ W_Qu g a1 o1 (gQu_ints v1) (gQu_places v1) (gQu_strengths v1)) (out.1) (W_Se g a0 o0 (gSh_ints (gSe_base v0)) (gSh_harm (gSe_base v0)) (gLi_fast (gSh_lines (gSe_base v0))) (gLi_place (gSh_lines (gSe_base v0))) (gLi_post (gSh_lines (gSe_base v0))) (gLi_length (gSh_lines (gSe_base v0))) (out.2.1) (out.2.2.1) (out.2.2.2.1) (out.2.2.2.2.1) (out.2.2.2.2.2.1) (out.2.2.2.2.2.2) (gQu_ints (gSe_other v0)) (gQu_places (gSe_other v0)) (gQu_strengths (gSe_other v0)) ++ W_Qu g a1 o1 (gQu_ints v1) (gQu_places v1) (gQu_strengths v1)) := by
  refine zMz_of (lv := [(0, .ref (a0 o0)), (1, .ref (a1 o1))]) (by decide) (Nat.le_of_ble_eq_true rfl) rfl (fun x hl hg C hret => ?_)
  subst hl; subst hg
  rw [f_Se_stopsSafely] at hf
  refine r_aload_n C eX6_stopsSafely_0 0 rfl rfl ?_
  refine r_get (v := .ref (a0 (o0 + 7))) C eX6_stopsSafely_1 FX6_18 0 rfl rfl ?_
  refine r_aload_n C eX6_stopsSafely_4 0 rfl rfl ?_
  refine r_get (v := .ref (a0 (o0 + 1))) C eX6_stopsSafely_5 FX6_12 0 rfl rfl ?_
  obtain ⟨r1, hr1, hf⟩ := zbind hf
  refine r_V_v (ws' := W_Se (z_g x) a0 o0 (gSh_ints (gSe_base v0)) (gSh_harm (gSe_base v0)) (gLi_fast (gSh_lines (gSe_base v0))) (gLi_place (gSh_lines (gSe_base v0))) (gLi_post (gSh_lines (gSe_base v0))) (gLi_length (gSh_lines (gSe_base v0))) (r1.1) (r1.2.1) (r1.2.2.1) (r1.2.2.2.1) (r1.2.2.2.2.1) (r1.2.2.2.2.2) (gQu_ints (gSe_other v0)) (gQu_places (gSe_other v0)) (gQu_strengths (gSe_other v0)) ++ W_Qu (z_g x) a1 o1 (gQu_ints v1) (gQu_places v1) (gQu_strengths v1)) C (c_Sh_copyFrom (z_l x) (z_g x) a0 (o0 + 7) (gSe_probe v0) a0 (o0 + 1) (gSe_base v0)  r1 hr1) eX6_stopsSafely_8 MX6_28 ⟨0, 7, _, _, rfl, rfl, rfl⟩ [7, 8, 9, 10, 11, 12, 1, 2, 3, 4, 5, 6] rfl rfl rfl rfl [0, 13, 14, 15, 16, 17, 18] rfl ⟨rfl, rfl, rfl, rfl, rfl, rfl, rfl, trivial⟩ 19 rfl rfl rfl rfl rfl rfl ?_
  refine r_aload_n C eX6_stopsSafely_11 0 rfl rfl ?_
  refine r_get (v := .ref (a0 (o0 + 7))) C eX6_stopsSafely_12 FX6_18 0 rfl rfl ?_
  refine r_bipush C (v := (-2)) eX6_stopsSafely_15 (by decide) ?_
  refine r_put (ws' := W_Se (z_g x) a0 o0 (gSh_ints (gSe_base v0)) (gSh_harm (gSe_base v0)) (gLi_fast (gSh_lines (gSe_base v0))) (gLi_place (gSh_lines (gSe_base v0))) (gLi_post (gSh_lines (gSe_base v0))) (gLi_length (gSh_lines (gSe_base v0))) (upd (r1.1) 6 (-2)) (r1.2.1) (r1.2.2.1) (r1.2.2.2.1) (r1.2.2.2.2.1) (r1.2.2.2.2.2) (gQu_ints (gSe_other v0)) (gQu_places (gSe_other v0)) (gQu_strengths (gSe_other v0)) ++ W_Qu (z_g x) a1 o1 (gQu_ints v1) (gQu_places v1) (gQu_strengths v1)) C eX6_stopsSafely_17 PX6_44 7 rfl rfl rfl (Nat.le_of_ble_eq_true rfl) rfl ?_
  refine r_aload_n C eX6_stopsSafely_20 0 rfl rfl ?_
  refine r_get (v := .ref (a0 (o0 + 7))) C eX6_stopsSafely_21 FX6_18 0 rfl rfl ?_
  refine r_iconst C (v := 0) eX6_stopsSafely_24 (by decide) ?_
  refine r_put (ws' := W_Se (z_g x) a0 o0 (gSh_ints (gSe_base v0)) (gSh_harm (gSe_base v0)) (gLi_fast (gSh_lines (gSe_base v0))) (gLi_place (gSh_lines (gSe_base v0))) (gLi_post (gSh_lines (gSe_base v0))) (gLi_length (gSh_lines (gSe_base v0))) (upd (upd (r1.1) 6 (-2)) 7 0) (r1.2.1) (r1.2.2.1) (r1.2.2.2.1) (r1.2.2.2.2.1) (r1.2.2.2.2.2) (gQu_ints (gSe_other v0)) (gQu_places (gSe_other v0)) (gQu_strengths (gSe_other v0)) ++ W_Qu (z_g x) a1 o1 (gQu_ints v1) (gQu_places v1) (gQu_strengths v1)) C eX6_stopsSafely_25 PX6_48 7 rfl rfl rfl (Nat.le_of_ble_eq_true rfl) rfl ?_
  refine r_iconst C (v := 0) eX6_stopsSafely_28 (by decide) ?_
  refine r_istore_n C [(2, .int 0), (0, .ref (a0 o0)), (1, .ref (a1 o1))] eX6_stopsSafely_29 rfl (by decide) rfl ?_
  obtain ⟨q3, h4, hf⟩ := zbind hf
  have J5 : vV x 3 0 0 (W_Se (z_g x) a0 o0 (gSh_ints (gSe_base v0)) (gSh_harm (gSe_base v0)) (gLi_fast (gSh_lines (gSe_base v0))) (gLi_place (gSh_lines (gSe_base v0))) (gLi_post (gSh_lines (gSe_base v0))) (gLi_length (gSh_lines (gSe_base v0))) (q3.2.1) (q3.2.2.1) (q3.2.2.2) (r1.2.2.2.1) (r1.2.2.2.2.1) (r1.2.2.2.2.2) (gQu_ints (gSe_other v0)) (gQu_places (gSe_other v0)) (gQu_strengths (gSe_other v0)) ++ W_Qu (z_g x) a1 o1 (gQu_ints v1) (gQu_places v1) (gQu_strengths v1)) 87 [(0, .ref (a0 o0)), (1, .ref (a1 o1))] [] := by
    refine r_aload_n C eX6_stopsSafely_87 0 rfl rfl ?_
    refine r_get (v := .ref (a0 (o0 + 7))) C eX6_stopsSafely_88 FX6_18 0 rfl rfl ?_
    refine r_get (v := .long (q3.2.2.1)) C eX6_stopsSafely_91 FX6_32 7 rfl rfl ?_
    refine r_aload_n C eX6_stopsSafely_94 0 rfl rfl ?_
    refine r_get (v := .ref (a0 (o0 + 1))) C eX6_stopsSafely_95 FX6_12 0 rfl rfl ?_
    refine r_get (v := .long (gSh_harm (gSe_base v0))) C eX6_stopsSafely_98 FX6_32 1 rfl rfl ?_
    refine r_lcmp_ne C eX6_stopsSafely_101 eX6_stopsSafely_102 (fun c13 => ?_) (fun c13 => ?_)
    · rw [if_neg c13] at hf
      refine r_iconst C (v := 0) eX6_stopsSafely_120 (by decide) ?_
      obtain rfl := Option.some.inj (show some ((0, (q3.2.1), (q3.2.2.1), (q3.2.2.2), (r1.2.2.2.1), (r1.2.2.2.2.1), (r1.2.2.2.2.2)) : Int32 × (Nat → Int32) × Int64 × (Nat → Int32) × (Nat → Int32) × (Nat → Int32) × (Nat → Int32)) = some _ from hf)
      exact hret _ _ _ eX6_stopsSafely_121 zB0
    · rw [if_pos c13] at hf
      refine r_aload_n C eX6_stopsSafely_105 0 rfl rfl ?_
      refine r_get (v := .ref (a0 (o0 + 7))) C eX6_stopsSafely_106 FX6_18 0 rfl rfl ?_
      refine r_aload_n C eX6_stopsSafely_109 1 rfl rfl ?_
      refine r_V_z (ws' := W_Se (z_g x) a0 o0 (gSh_ints (gSe_base v0)) (gSh_harm (gSe_base v0)) (gLi_fast (gSh_lines (gSe_base v0))) (gLi_place (gSh_lines (gSe_base v0))) (gLi_post (gSh_lines (gSe_base v0))) (gLi_length (gSh_lines (gSe_base v0))) (q3.2.1) (q3.2.2.1) (q3.2.2.2) (r1.2.2.2.1) (r1.2.2.2.2.1) (r1.2.2.2.2.2) (gQu_ints (gSe_other v0)) (gQu_places (gSe_other v0)) (gQu_strengths (gSe_other v0)) ++ W_Qu (z_g x) a1 o1 (gQu_ints v1) (gQu_places v1) (gQu_strengths v1)) C (c_Sh_isSafe (z_l x) (z_g x) a0 (o0 + 7) ((q3.2.1), (q3.2.2.1), ((q3.2.2.2), (r1.2.2.2.1), (r1.2.2.2.2.1), (r1.2.2.2.2.2))) a1 o1 v1  _ rfl) eX6_stopsSafely_110 MX6_54 ⟨0, 7, _, _, rfl, rfl, rfl⟩ [7, 8, 9, 10, 11, 12, 16, 17, 18] rfl rfl rfl rfl [0, 1, 2, 3, 4, 5, 6, 13, 14, 15] rfl ⟨rfl, rfl, rfl, rfl, rfl, rfl, rfl, rfl, rfl, rfl, trivial⟩ 19 rfl rfl rfl rfl rfl rfl (fun zb14 => ?_)
      refine r_if_eq C eX6_stopsSafely_113 (fun c15 => ?_) (fun c15 => ?_)
      · rw [if_pos c15] at hf
        refine r_iconst C (v := 0) eX6_stopsSafely_120 (by decide) ?_
        obtain rfl := Option.some.inj (show some ((0, (q3.2.1), (q3.2.2.1), (q3.2.2.2), (r1.2.2.2.1), (r1.2.2.2.2.1), (r1.2.2.2.2.2)) : Int32 × (Nat → Int32) × Int64 × (Nat → Int32) × (Nat → Int32) × (Nat → Int32) × (Nat → Int32)) = some _ from hf)
        exact hret _ _ _ eX6_stopsSafely_121 zB0
      · rw [if_neg c15] at hf
        refine r_iconst C (v := 1) eX6_stopsSafely_116 (by decide) ?_
        refine r_goto C eX6_stopsSafely_117 ?_
        obtain rfl := Option.some.inj (show some ((1, (q3.2.1), (q3.2.2.1), (q3.2.2.2), (r1.2.2.2.1), (r1.2.2.2.2.1), (r1.2.2.2.2.2)) : Int32 × (Nat → Int32) × Int64 × (Nat → Int32) × (Nat → Int32) × (Nat → Int32) × (Nat → Int32)) = some _ from hf)
        exact hret _ _ _ eX6_stopsSafely_121 zB1
  have L6 : ∀ (nL6 : Nat) (s2 : Int32 × (Nat → Int32) × Int64 × (Nat → Int32)), lp (fB_Se_stopsSafely_30 v0 v1 r1) nL6 s2 = some q3 → vV x 3 0 0 (W_Se (z_g x) a0 o0 (gSh_ints (gSe_base v0)) (gSh_harm (gSe_base v0)) (gLi_fast (gSh_lines (gSe_base v0))) (gLi_place (gSh_lines (gSe_base v0))) (gLi_post (gSh_lines (gSe_base v0))) (gLi_length (gSh_lines (gSe_base v0))) (s2.2.1) (s2.2.2.1) (s2.2.2.2) (r1.2.2.2.1) (r1.2.2.2.2.1) (r1.2.2.2.2.2) (gQu_ints (gSe_other v0)) (gQu_places (gSe_other v0)) (gQu_strengths (gSe_other v0)) ++ W_Qu (z_g x) a1 o1 (gQu_ints v1) (gQu_places v1) (gQu_strengths v1)) 30 [(0, .ref (a0 o0)), (1, .ref (a1 o1)), (2, .int (s2.1))] [] := by
    intro nL6
    induction nL6 with
    | zero => intro s2 hq; cases hq
    | succ nL6 ihL6 =>
      intro s2 hbL6
      rw [lp_succ, fB_Se_stopsSafely_30] at hbL6
      refine r_iload_n C eX6_stopsSafely_30 2 rfl rfl ?_
      refine r_bipush C (v := 60) eX6_stopsSafely_31 (by decide) ?_
      refine r_icmp_ge C eX6_stopsSafely_33 (fun c7 => ?_) (fun c7 => ?_)
      · rw [if_pos c7] at hbL6
        obtain rfl := Option.some.inj hbL6
        refine r_sub (lv' := [(0, .ref (a0 o0)), (1, .ref (a1 o1))]) [0, 1] rfl ?_
        exact J5
      · rw [if_neg c7] at hbL6
        refine r_aload_n C eX6_stopsSafely_36 0 rfl rfl ?_
        refine r_get (v := .ref (a0 (o0 + 7))) C eX6_stopsSafely_37 FX6_18 0 rfl rfl ?_
        refine r_get (v := .long (s2.2.2.1)) C eX6_stopsSafely_40 FX6_32 7 rfl rfl ?_
        refine r_aload_n C eX6_stopsSafely_43 0 rfl rfl ?_
        refine r_get (v := .ref (a0 (o0 + 1))) C eX6_stopsSafely_44 FX6_12 0 rfl rfl ?_
        refine r_get (v := .long (gSh_harm (gSe_base v0))) C eX6_stopsSafely_47 FX6_32 1 rfl rfl ?_
        refine r_lcmp_ne C eX6_stopsSafely_50 eX6_stopsSafely_51 (fun c8 => ?_) (fun c8 => ?_)
        · rw [if_neg c8] at hbL6
          obtain rfl := Option.some.inj hbL6
          refine r_sub (lv' := [(0, .ref (a0 o0)), (1, .ref (a1 o1))]) [0, 1] rfl ?_
          exact J5
        · rw [if_pos c8] at hbL6
          refine r_aload_n C eX6_stopsSafely_54 0 rfl rfl ?_
          refine r_get (v := .ref (a0 (o0 + 7))) C eX6_stopsSafely_55 FX6_18 0 rfl rfl ?_
          refine r_get (v := .int ((s2.2.1) 3)) C eX6_stopsSafely_58 FX6_51 7 rfl rfl ?_
          obtain ⟨w9, hw9, hbL6⟩ := zlet_of hbL6
          have J10 : vV x 3 0 0 (W_Se (z_g x) a0 o0 (gSh_ints (gSe_base v0)) (gSh_harm (gSe_base v0)) (gLi_fast (gSh_lines (gSe_base v0))) (gLi_place (gSh_lines (gSe_base v0))) (gLi_post (gSh_lines (gSe_base v0))) (gLi_length (gSh_lines (gSe_base v0))) w9 (s2.2.2.1) (s2.2.2.2) (r1.2.2.2.1) (r1.2.2.2.2.1) (r1.2.2.2.2.2) (gQu_ints (gSe_other v0)) (gQu_places (gSe_other v0)) (gQu_strengths (gSe_other v0)) ++ W_Qu (z_g x) a1 o1 (gQu_ints v1) (gQu_places v1) (gQu_strengths v1)) 72 [(0, .ref (a0 o0)), (1, .ref (a1 o1)), (2, .int (s2.1))] [] := by
            refine r_aload_n C eX6_stopsSafely_72 0 rfl rfl ?_
            refine r_get (v := .ref (a0 (o0 + 7))) C eX6_stopsSafely_73 FX6_18 0 rfl rfl ?_
            refine r_aload_n C eX6_stopsSafely_76 1 rfl rfl ?_
            obtain ⟨r12, hr12, hbL6⟩ := zbind hbL6
            refine r_V_i (ws' := W_Se (z_g x) a0 o0 (gSh_ints (gSe_base v0)) (gSh_harm (gSe_base v0)) (gLi_fast (gSh_lines (gSe_base v0))) (gLi_place (gSh_lines (gSe_base v0))) (gLi_post (gSh_lines (gSe_base v0))) (gLi_length (gSh_lines (gSe_base v0))) (r12.2.1) (r12.2.2.1) (r12.2.2.2) (r1.2.2.2.1) (r1.2.2.2.2.1) (r1.2.2.2.2.2) (gQu_ints (gSe_other v0)) (gQu_places (gSe_other v0)) (gQu_strengths (gSe_other v0)) ++ W_Qu (z_g x) a1 o1 (gQu_ints v1) (gQu_places v1) (gQu_strengths v1)) C (c_Sh_passSecond (z_l x) (z_g x) a0 (o0 + 7) (w9, (s2.2.2.1), ((s2.2.2.2), (r1.2.2.2.1), (r1.2.2.2.2.1), (r1.2.2.2.2.2))) a1 o1 v1  r12 hr12) eX6_stopsSafely_77 MX6_40 ⟨0, 7, _, _, rfl, rfl, rfl⟩ [7, 8, 9, 10, 11, 12, 16, 17, 18] rfl rfl rfl rfl [0, 1, 2, 3, 4, 5, 6, 13, 14, 15] rfl ⟨rfl, rfl, rfl, rfl, rfl, rfl, rfl, rfl, rfl, rfl, trivial⟩ 19 rfl rfl rfl rfl rfl rfl ?_
            refine r_pop C eX6_stopsSafely_80 rfl ?_
            refine r_iinc C (v := ((s2.1) + 1)) [(2, .int ((s2.1) + 1)), (0, .ref (a0 o0)), (1, .ref (a1 o1))] eX6_stopsSafely_81 2 rfl rfl (by decide) rfl ?_
            refine r_goto C eX6_stopsSafely_84 ?_
            refine r_sub (lv' := [(0, .ref (a0 o0)), (1, .ref (a1 o1)), (2, .int ((s2.1) + 1))]) [1, 2, 0] rfl ?_
            have hc := ihL6 (((s2.1) + 1), (r12.2.1), (r12.2.2.1), (r12.2.2.2)) hbL6
            exact hc
          refine r_if_gt C eX6_stopsSafely_61 (fun c11 => ?_) (fun c11 => ?_)
          · rw [if_pos c11] at hw9
            subst hw9
            exact J10 
          · rw [if_neg c11] at hw9
            refine r_aload_n C eX6_stopsSafely_64 0 rfl rfl ?_
            refine r_get (v := .ref (a0 (o0 + 7))) C eX6_stopsSafely_65 FX6_18 0 rfl rfl ?_
            refine r_iconst C (v := 0) eX6_stopsSafely_68 (by decide) ?_
            refine r_put (ws' := W_Se (z_g x) a0 o0 (gSh_ints (gSe_base v0)) (gSh_harm (gSe_base v0)) (gLi_fast (gSh_lines (gSe_base v0))) (gLi_place (gSh_lines (gSe_base v0))) (gLi_post (gSh_lines (gSe_base v0))) (gLi_length (gSh_lines (gSe_base v0))) (upd (s2.2.1) 6 0) (s2.2.2.1) (s2.2.2.2) (r1.2.2.2.1) (r1.2.2.2.2.1) (r1.2.2.2.2.2) (gQu_ints (gSe_other v0)) (gQu_places (gSe_other v0)) (gQu_strengths (gSe_other v0)) ++ W_Qu (z_g x) a1 o1 (gQu_ints v1) (gQu_places v1) (gQu_strengths v1)) C eX6_stopsSafely_69 PX6_44 7 rfl rfl rfl (Nat.le_of_ble_eq_true rfl) rfl ?_
            subst hw9
            exact J10 
  refine r_sub (lv' := [(0, .ref (a0 o0)), (1, .ref (a1 o1)), (2, .int 0)]) [1, 2, 0] rfl ?_
  have hc := L6 LF (0, (upd (upd (r1.1) 6 (-2)) 7 0), (r1.2.1), (r1.2.2.1)) h4
  exact hc
