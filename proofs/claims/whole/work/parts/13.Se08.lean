theorem eX6_leastGap_0 : zd 1 cX6_leastGap 0 1 (.aload_n 1) := ⟨by decide +kernel, rfl⟩
theorem eX6_leastGap_1 : zd 3 cX6_leastGap 1 4 (.getfield 70) := ⟨by decide +kernel, rfl⟩
theorem eX6_leastGap_4 : zd 1 cX6_leastGap 4 5 (.iconst 1) := ⟨by decide +kernel, rfl⟩
theorem eX6_leastGap_5 : zd 1 cX6_leastGap 5 6 (.isub) := ⟨by decide +kernel, rfl⟩
theorem eX6_leastGap_6 : zd 1 cX6_leastGap 6 7 (.aload_n 1) := ⟨by decide +kernel, rfl⟩
theorem eX6_leastGap_7 : zd 3 cX6_leastGap 7 10 (.getfield 73) := ⟨by decide +kernel, rfl⟩
theorem eX6_leastGap_10 : zd 1 cX6_leastGap 10 11 (.isub) := ⟨by decide +kernel, rfl⟩
theorem eX6_leastGap_11 : zd 2 cX6_leastGap 11 13 (.bipush 50) := ⟨by decide +kernel, rfl⟩
theorem eX6_leastGap_13 : zd 1 cX6_leastGap 13 14 (.idiv) := ⟨by decide +kernel, rfl⟩
theorem eX6_leastGap_14 : zd 2 cX6_leastGap 14 16 (.istore 5) := ⟨by decide +kernel, rfl⟩
theorem eX6_leastGap_16 : zd 1 cX6_leastGap 16 17 (.aload_n 0) := ⟨by decide +kernel, rfl⟩
theorem eX6_leastGap_17 : zd 3 cX6_leastGap 17 20 (.getfield 24) := ⟨by decide +kernel, rfl⟩
theorem eX6_leastGap_20 : zd 1 cX6_leastGap 20 21 (.aload_n 1) := ⟨by decide +kernel, rfl⟩
theorem eX6_leastGap_21 : zd 3 cX6_leastGap 21 24 (.invokevirtual 60) := ⟨by decide +kernel, rfl⟩
theorem eX6_leastGap_24 : zd 2 cX6_leastGap 24 26 (.iload 5) := ⟨by decide +kernel, rfl⟩
theorem eX6_leastGap_26 : zd 2 cX6_leastGap 26 28 (.istore 6) := ⟨by decide +kernel, rfl⟩
theorem eX6_leastGap_28 : zd 2 cX6_leastGap 28 30 (.iload 6) := ⟨by decide +kernel, rfl⟩
theorem eX6_leastGap_30 : zdi cX6_leastGap 30 33 94 (.ifCond .lt) := ⟨64, by decide +kernel, rfl, by decide⟩
theorem eX6_leastGap_33 : zd 1 cX6_leastGap 33 34 (.aload_n 0) := ⟨by decide +kernel, rfl⟩
theorem eX6_leastGap_34 : zd 3 cX6_leastGap 34 37 (.getfield 24) := ⟨by decide +kernel, rfl⟩
theorem eX6_leastGap_37 : zd 1 cX6_leastGap 37 38 (.aload_n 1) := ⟨by decide +kernel, rfl⟩
theorem eX6_leastGap_38 : zd 3 cX6_leastGap 38 41 (.getfield 73) := ⟨by decide +kernel, rfl⟩
theorem eX6_leastGap_41 : zd 2 cX6_leastGap 41 43 (.iload 6) := ⟨by decide +kernel, rfl⟩
theorem eX6_leastGap_43 : zd 2 cX6_leastGap 43 45 (.bipush 50) := ⟨by decide +kernel, rfl⟩
theorem eX6_leastGap_45 : zd 1 cX6_leastGap 45 46 (.imul) := ⟨by decide +kernel, rfl⟩
theorem eX6_leastGap_46 : zd 1 cX6_leastGap 46 47 (.iadd) := ⟨by decide +kernel, rfl⟩
theorem eX6_leastGap_47 : zd 3 cX6_leastGap 47 50 (.putfield 73) := ⟨by decide +kernel, rfl⟩
theorem eX6_leastGap_50 : zd 1 cX6_leastGap 50 51 (.aload_n 0) := ⟨by decide +kernel, rfl⟩
theorem eX6_leastGap_51 : zd 3 cX6_leastGap 51 54 (.getfield 18) := ⟨by decide +kernel, rfl⟩
theorem eX6_leastGap_54 : zd 1 cX6_leastGap 54 55 (.aload_n 2) := ⟨by decide +kernel, rfl⟩
theorem eX6_leastGap_55 : zd 3 cX6_leastGap 55 58 (.invokevirtual 28) := ⟨by decide +kernel, rfl⟩
theorem eX6_leastGap_58 : zd 1 cX6_leastGap 58 59 (.aload_n 0) := ⟨by decide +kernel, rfl⟩
theorem eX6_leastGap_59 : zd 1 cX6_leastGap 59 60 (.aload_n 0) := ⟨by decide +kernel, rfl⟩
theorem eX6_leastGap_60 : zd 3 cX6_leastGap 60 63 (.getfield 24) := ⟨by decide +kernel, rfl⟩
theorem eX6_leastGap_63 : zd 1 cX6_leastGap 63 64 (.aload_n 3) := ⟨by decide +kernel, rfl⟩
theorem eX6_leastGap_64 : zd 2 cX6_leastGap 64 66 (.iload 4) := ⟨by decide +kernel, rfl⟩
theorem eX6_leastGap_66 : zd 3 cX6_leastGap 66 69 (.invokevirtual 66) := ⟨by decide +kernel, rfl⟩
theorem eX6_leastGap_69 : zdi cX6_leastGap 69 72 88 (.ifCond .eq) := ⟨19, by decide +kernel, rfl, by decide⟩
theorem eX6_leastGap_72 : zd 1 cX6_leastGap 72 73 (.aload_n 0) := ⟨by decide +kernel, rfl⟩
theorem eX6_leastGap_73 : zd 3 cX6_leastGap 73 76 (.getfield 24) := ⟨by decide +kernel, rfl⟩
theorem eX6_leastGap_76 : zd 3 cX6_leastGap 76 79 (.getfield 70) := ⟨by decide +kernel, rfl⟩
theorem eX6_leastGap_79 : zd 1 cX6_leastGap 79 80 (.aload_n 0) := ⟨by decide +kernel, rfl⟩
theorem eX6_leastGap_80 : zd 3 cX6_leastGap 80 83 (.getfield 24) := ⟨by decide +kernel, rfl⟩
theorem eX6_leastGap_83 : zd 3 cX6_leastGap 83 86 (.getfield 73) := ⟨by decide +kernel, rfl⟩
theorem eX6_leastGap_86 : zd 1 cX6_leastGap 86 87 (.isub) := ⟨by decide +kernel, rfl⟩
theorem eX6_leastGap_87 : zd 1 cX6_leastGap 87 88 (.ireturn) := ⟨by decide +kernel, rfl⟩
theorem eX6_leastGap_88 : zd 3 cX6_leastGap 88 91 (.iinc 6 (-1)) := ⟨by decide +kernel, rfl⟩
theorem eX6_leastGap_91 : zdi cX6_leastGap 91 94 28 (.goto) := ⟨(-63), by decide +kernel, rfl, by decide⟩
theorem eX6_leastGap_94 : zd 1 cX6_leastGap 94 95 (.iconst (-1)) := ⟨by decide +kernel, rfl⟩
theorem eX6_leastGap_95 : zd 1 cX6_leastGap 95 96 (.ireturn) := ⟨by decide +kernel, rfl⟩
theorem FX6_70 : zlF RX6 70 4 1 := ⟨(RX4, TX4, 16), rfl, by decide, q59, zin4⟩
theorem FX6_73 : zlF RX6 73 4 0 := ⟨(RX4, TX4, 16), rfl, by decide, q56, zin4⟩
theorem PX6_73 : zlP RX6 73 4 0 .int := ⟨(RX4, TX4, 16), tyX4, rfl, by decide, q56, zin4, tyX4_ok, nmX4, rfl, by decide +kernel⟩
noncomputable def fB_Se_leastGap_28 (v0 : tSe) (v1 : tQu) (v2 : tSh) (v3 : tPl) (p1 : Int32) (r2 : (Nat → Int32) × (Nat → Int32) × (Nat → Int32)) (ih : (Int32 × (Nat → Int32) × Int64 × (Nat → Int32) × (Nat → Int32) × (Nat → Int32) × (Nat → Int32) × (Nat → Int32)) → Option ((Int32 × (Nat → Int32) × Int64 × (Nat → Int32) × (Nat → Int32) × (Nat → Int32) × (Nat → Int32) × (Nat → Int32) × (Nat → Int32) × (Nat → Int32)) ⊕ (Int32 × (Nat → Int32) × Int64 × (Nat → Int32) × (Nat → Int32) × (Nat → Int32) × (Nat → Int32) × (Nat → Int32)))) (s3 : Int32 × (Nat → Int32) × Int64 × (Nat → Int32) × (Nat → Int32) × (Nat → Int32) × (Nat → Int32) × (Nat → Int32)) : Option ((Int32 × (Nat → Int32) × Int64 × (Nat → Int32) × (Nat → Int32) × (Nat → Int32) × (Nat → Int32) × (Nat → Int32) × (Nat → Int32) × (Nat → Int32)) ⊕ (Int32 × (Nat → Int32) × Int64 × (Nat → Int32) × (Nat → Int32) × (Nat → Int32) × (Nat → Int32) × (Nat → Int32))) := (if (s3.1) < 0 then (some (Sum.inr ((s3.1), (s3.2.1), (s3.2.2.1), (s3.2.2.2.1), (s3.2.2.2.2.1), (s3.2.2.2.2.2.1), (s3.2.2.2.2.2.2.1), (s3.2.2.2.2.2.2.2)))) else (zlet (((gQu_ints v1) 0) + ((s3.1) * 50)) (fun (z9 : Int32) => (Option.bind (f_Sh_copyFrom ((s3.2.1), (s3.2.2.1), ((s3.2.2.2.1), (s3.2.2.2.2.1), (s3.2.2.2.2.2.1), (s3.2.2.2.2.2.2.1))) v2) (fun (r10 : (Nat → Int32) × Int64 × (Nat → Int32) × (Nat → Int32) × (Nat → Int32) × (Nat → Int32)) => (Option.bind (f_Se_isSafeByPlan_other ((gSe_base v0), ((r10.1), (r10.2.1), ((r10.2.2.1), (r10.2.2.2.1), (r10.2.2.2.2.1), (r10.2.2.2.2.2))), ((upd (s3.2.2.2.2.2.2.2) 0 z9), (r2.2.1), (r2.2.2))) v3 p1) (fun (r11 : Int32 × (Nat → Int32) × Int64 × (Nat → Int32)) => (if (r11.1) = 0 then (ih (((s3.1) + (-1)), (r11.2.1), (r11.2.2.1), (r11.2.2.2), (r10.2.2.2.1), (r10.2.2.2.2.1), (r10.2.2.2.2.2), (upd (s3.2.2.2.2.2.2.2) 0 z9))) else (some (Sum.inl ((((s3.2.2.2.2.2.2.2) 1) - z9), (r11.2.1), (r11.2.2.1), (r11.2.2.2), (r10.2.2.2.1), (r10.2.2.2.2.1), (r10.2.2.2.2.2), (upd (s3.2.2.2.2.2.2.2) 0 z9), (r2.2.1), (r2.2.2))))))))))))
noncomputable def f_Se_leastGap (v0 : tSe) (v1 : tQu) (v2 : tSh) (v3 : tPl) (p1 : Int32) : Option (Int32 × (Nat → Int32) × Int64 × (Nat → Int32) × (Nat → Int32) × (Nat → Int32) × (Nat → Int32) × (Nat → Int32) × (Nat → Int32) × (Nat → Int32)) := (zlet (((((gQu_ints v1) 1) - 1) - ((gQu_ints v1) 0)) / 50) (fun (z1 : Int32) => (Option.bind (f_Qu_copyFrom (gSe_other v0) v1) (fun (r2 : (Nat → Int32) × (Nat → Int32) × (Nat → Int32)) => (Option.bind (lp (fB_Se_leastGap_28 v0 v1 v2 v3 p1 r2) LF (z1, (gSh_ints (gSe_probe v0)), (gSh_harm (gSe_probe v0)), (gLi_fast (gSh_lines (gSe_probe v0))), (gLi_place (gSh_lines (gSe_probe v0))), (gLi_post (gSh_lines (gSe_probe v0))), (gLi_length (gSh_lines (gSe_probe v0))), (r2.1))) (fun (q4 : (Int32 × (Nat → Int32) × Int64 × (Nat → Int32) × (Nat → Int32) × (Nat → Int32) × (Nat → Int32) × (Nat → Int32) × (Nat → Int32) × (Nat → Int32)) ⊕ (Int32 × (Nat → Int32) × Int64 × (Nat → Int32) × (Nat → Int32) × (Nat → Int32) × (Nat → Int32) × (Nat → Int32))) => Sum.elim (fun r => (some r)) (fun (s3e : Int32 × (Nat → Int32) × Int64 × (Nat → Int32) × (Nat → Int32) × (Nat → Int32) × (Nat → Int32) × (Nat → Int32)) => (some ((-1), (s3e.2.1), (s3e.2.2.1), (s3e.2.2.2.1), (s3e.2.2.2.2.1), (s3e.2.2.2.2.2.1), (s3e.2.2.2.2.2.2.1), (s3e.2.2.2.2.2.2.2), (r2.2.1), (r2.2.2)))) q4))))))
abbrev rm_Se_leastGap : Room := { frames := 5, cells := 0, slots := 0, locals := 129 }
set_option maxHeartbeats 4000000 in
set_option maxRecDepth 100000 in
theorem c_Se_leastGap (l : Launch) (g : zGl) (a0 : Nat → Nat) (o0 : Nat) (v0 : tSe) (a1 : Nat → Nat) (o1 : Nat) (v1 : tQu) (a2 : Nat → Nat) (o2 : Nat) (v2 : tSh) (a3 : Nat → Nat) (o3 : Nat) (v3 : tPl) (p1 : Int32) (out : Int32 × (Nat → Int32) × Int64 × (Nat → Int32) × (Nat → Int32) × (Nat → Int32) × (Nat → Int32) × (Nat → Int32) × (Nat → Int32) × (Nat → Int32)) (hf : f_Se_leastGap v0 v1 v2 v3 p1 = some out) : zMi l yX6_leastGap cX6_leastGap 7 rm_Se_leastGap g [.ref (a0 o0), .ref (a1 o1), .ref (a2 o2), .ref (a3 o3), .int p1] (W_Se g a0 o0 (gSh_ints (gSe_base v0)) (gSh_harm (gSe_base v0)) (gLi_fast (gSh_lines (gSe_base v0))) (gLi_place (gSh_lines (gSe_base v0))) (gLi_post (gSh_lines (gSe_base v0))) (gLi_length (gSh_lines (gSe_base v0))) (gSh_ints (gSe_probe v0)) (gSh_harm (gSe_probe v0)) (gLi_fast (gSh_lines (gSe_probe v0))) (gLi_place (gSh_lines (gSe_probe v0))) (gLi_post (gSh_lines (gSe_probe v0))) (gLi_length (gSh_lines (gSe_probe v0))) (gQu_ints (gSe_other v0)) (gQu_places (gSe_other v0)) (gQu_strengths (gSe_other v0)) ++ W_Qu g a1 o1 (gQu_ints v1) (gQu_places v1) (gQu_strengths v1) ++ W_Sh g a2 o2 (gSh_ints v2) (gSh_harm v2) (gLi_fast (gSh_lines v2)) (gLi_place (gSh_lines v2)) (gLi_post (gSh_lines v2)) (gLi_length (gSh_lines v2)) ++ W_Pl g a3 o3 (gPl_ints v3) (gPl_seconds v3) (gPl_engines v3) (gPl_wheels v3)) (out.1) (W_Se g a0 o0 (gSh_ints (gSe_base v0)) (gSh_harm (gSe_base v0)) (gLi_fast (gSh_lines (gSe_base v0))) (gLi_place (gSh_lines (gSe_base v0))) (gLi_post (gSh_lines (gSe_base v0))) (gLi_length (gSh_lines (gSe_base v0))) (out.2.1) (out.2.2.1) (out.2.2.2.1) (out.2.2.2.2.1) (out.2.2.2.2.2.1) (out.2.2.2.2.2.2.1) (out.2.2.2.2.2.2.2.1) (out.2.2.2.2.2.2.2.2.1) (out.2.2.2.2.2.2.2.2.2) ++ W_Qu g a1 o1 (gQu_ints v1) (gQu_places v1) (gQu_strengths v1) ++ W_Sh g a2 o2 (gSh_ints v2) (gSh_harm v2) (gLi_fast (gSh_lines v2)) (gLi_place (gSh_lines v2)) (gLi_post (gSh_lines v2)) (gLi_length (gSh_lines v2)) ++ W_Pl g a3 o3 (gPl_ints v3) (gPl_seconds v3) (gPl_engines v3) (gPl_wheels v3)) := by
  refine zMi_of (lv := [(0, .ref (a0 o0)), (1, .ref (a1 o1)), (2, .ref (a2 o2)), (3, .ref (a3 o3)), (4, .int p1)]) (by decide) (Nat.le_of_ble_eq_true rfl) rfl (fun x hl hg C hret => ?_)
  subst hl; subst hg
  rw [f_Se_leastGap] at hf
  refine r_aload_n C eX6_leastGap_0 1 rfl rfl ?_
  refine r_get (v := .int ((gQu_ints v1) 1)) C eX6_leastGap_1 FX6_70 16 rfl rfl ?_
  refine r_iconst C (v := 1) eX6_leastGap_4 (by decide) ?_
  refine r_isub C eX6_leastGap_5 ?_
  refine r_aload_n C eX6_leastGap_6 1 rfl rfl ?_
  refine r_get (v := .int ((gQu_ints v1) 0)) C eX6_leastGap_7 FX6_73 16 rfl rfl ?_
  refine r_isub C eX6_leastGap_10 ?_
  refine r_bipush C (v := 50) eX6_leastGap_11 (by decide) ?_
  refine r_idiv C eX6_leastGap_13 (by decide) ?_
  obtain ⟨z1, hz1, hf⟩ := zlet_of hf
  refine r_nami hz1 ?_
  refine r_istore C [(5, .int z1), (0, .ref (a0 o0)), (1, .ref (a1 o1)), (2, .ref (a2 o2)), (3, .ref (a3 o3)), (4, .int p1)] eX6_leastGap_14 (by decide) rfl ?_
  refine r_aload_n C eX6_leastGap_16 1 rfl rfl ?_
  refine r_get (v := .ref (a0 (o0 + 13))) C eX6_leastGap_17 FX6_24 0 rfl rfl ?_
  refine r_aload_n C eX6_leastGap_20 2 rfl rfl ?_
  obtain ⟨r2, hr2, hf⟩ := zbind hf
  refine r_V_v (ws' := W_Se (z_g x) a0 o0 (gSh_ints (gSe_base v0)) (gSh_harm (gSe_base v0)) (gLi_fast (gSh_lines (gSe_base v0))) (gLi_place (gSh_lines (gSe_base v0))) (gLi_post (gSh_lines (gSe_base v0))) (gLi_length (gSh_lines (gSe_base v0))) (gSh_ints (gSe_probe v0)) (gSh_harm (gSe_probe v0)) (gLi_fast (gSh_lines (gSe_probe v0))) (gLi_place (gSh_lines (gSe_probe v0))) (gLi_post (gSh_lines (gSe_probe v0))) (gLi_length (gSh_lines (gSe_probe v0))) (r2.1) (r2.2.1) (r2.2.2) ++ W_Qu (z_g x) a1 o1 (gQu_ints v1) (gQu_places v1) (gQu_strengths v1) ++ W_Sh (z_g x) a2 o2 (gSh_ints v2) (gSh_harm v2) (gLi_fast (gSh_lines v2)) (gLi_place (gSh_lines v2)) (gLi_post (gSh_lines v2)) (gLi_length (gSh_lines v2)) ++ W_Pl (z_g x) a3 o3 (gPl_ints v3) (gPl_seconds v3) (gPl_engines v3) (gPl_wheels v3)) C (c_Qu_copyFrom (z_l x) (z_g x) a0 (o0 + 13) (gSe_other v0) a1 o1 v1  r2 hr2) eX6_leastGap_21 MX6_60 ⟨0, 4, _, _, rfl, rfl, rfl⟩ [13, 14, 15, 16, 17, 18] rfl rfl rfl rfl [0, 1, 2, 3, 4, 5, 6, 7, 8, 9, 10, 11, 12, 19, 20, 21, 22, 23, 24, 25, 26, 27, 28] rfl ⟨rfl, rfl, rfl, rfl, rfl, rfl, rfl, rfl, rfl, rfl, rfl, rfl, rfl, rfl, rfl, rfl, rfl, rfl, rfl, rfl, rfl, rfl, rfl, trivial⟩ 29 rfl rfl rfl rfl rfl rfl ?_
  refine r_iload C eX6_leastGap_24 0 rfl ?_
  refine r_istore C [(6, .int z1), (5, .int z1), (0, .ref (a0 o0)), (1, .ref (a1 o1)), (2, .ref (a2 o2)), (3, .ref (a3 o3)), (4, .int p1)] eX6_leastGap_26 (by decide) rfl ?_
  obtain ⟨q4, h5, hf⟩ := zbind hf
  have J6 : ∀ s3e : Int32 × (Nat → Int32) × Int64 × (Nat → Int32) × (Nat → Int32) × (Nat → Int32) × (Nat → Int32) × (Nat → Int32), q4 = Sum.inr s3e → vV x 7 0 0 (W_Se (z_g x) a0 o0 (gSh_ints (gSe_base v0)) (gSh_harm (gSe_base v0)) (gLi_fast (gSh_lines (gSe_base v0))) (gLi_place (gSh_lines (gSe_base v0))) (gLi_post (gSh_lines (gSe_base v0))) (gLi_length (gSh_lines (gSe_base v0))) (s3e.2.1) (s3e.2.2.1) (s3e.2.2.2.1) (s3e.2.2.2.2.1) (s3e.2.2.2.2.2.1) (s3e.2.2.2.2.2.2.1) (s3e.2.2.2.2.2.2.2) (r2.2.1) (r2.2.2) ++ W_Qu (z_g x) a1 o1 (gQu_ints v1) (gQu_places v1) (gQu_strengths v1) ++ W_Sh (z_g x) a2 o2 (gSh_ints v2) (gSh_harm v2) (gLi_fast (gSh_lines v2)) (gLi_place (gSh_lines v2)) (gLi_post (gSh_lines v2)) (gLi_length (gSh_lines v2)) ++ W_Pl (z_g x) a3 o3 (gPl_ints v3) (gPl_seconds v3) (gPl_engines v3) (gPl_wheels v3)) 94 [] [] := by
    intro s3e hs
    subst hs
    rw [Sum.elim_inr] at hf
    refine r_iconst C (v := (-1)) eX6_leastGap_94 (by decide) ?_
    obtain rfl := Option.some.inj (show some (((-1), (s3e.2.1), (s3e.2.2.1), (s3e.2.2.2.1), (s3e.2.2.2.2.1), (s3e.2.2.2.2.2.1), (s3e.2.2.2.2.2.2.1), (s3e.2.2.2.2.2.2.2), (r2.2.1), (r2.2.2)) : Int32 × (Nat → Int32) × Int64 × (Nat → Int32) × (Nat → Int32) × (Nat → Int32) × (Nat → Int32) × (Nat → Int32) × (Nat → Int32) × (Nat → Int32)) = some _ from hf)
    exact hret _ _ _ eX6_leastGap_95
  have L7 : ∀ (nL7 : Nat) (s3 : Int32 × (Nat → Int32) × Int64 × (Nat → Int32) × (Nat → Int32) × (Nat → Int32) × (Nat → Int32) × (Nat → Int32)), lp (fB_Se_leastGap_28 v0 v1 v2 v3 p1 r2) nL7 s3 = some q4 → vV x 7 0 0 (W_Se (z_g x) a0 o0 (gSh_ints (gSe_base v0)) (gSh_harm (gSe_base v0)) (gLi_fast (gSh_lines (gSe_base v0))) (gLi_place (gSh_lines (gSe_base v0))) (gLi_post (gSh_lines (gSe_base v0))) (gLi_length (gSh_lines (gSe_base v0))) (s3.2.1) (s3.2.2.1) (s3.2.2.2.1) (s3.2.2.2.2.1) (s3.2.2.2.2.2.1) (s3.2.2.2.2.2.2.1) (s3.2.2.2.2.2.2.2) (r2.2.1) (r2.2.2) ++ W_Qu (z_g x) a1 o1 (gQu_ints v1) (gQu_places v1) (gQu_strengths v1) ++ W_Sh (z_g x) a2 o2 (gSh_ints v2) (gSh_harm v2) (gLi_fast (gSh_lines v2)) (gLi_place (gSh_lines v2)) (gLi_post (gSh_lines v2)) (gLi_length (gSh_lines v2)) ++ W_Pl (z_g x) a3 o3 (gPl_ints v3) (gPl_seconds v3) (gPl_engines v3) (gPl_wheels v3)) 28 [(0, .ref (a0 o0)), (1, .ref (a1 o1)), (2, .ref (a2 o2)), (3, .ref (a3 o3)), (4, .int p1), (6, .int (s3.1))] [] := by
    intro nL7
    induction nL7 with
    | zero => intro s3 hq; cases hq
    | succ nL7 ihL7 =>
      intro s3 hbL7
      rw [lp_succ, fB_Se_leastGap_28] at hbL7
      refine r_iload C eX6_leastGap_28 5 rfl ?_
      refine r_if_lt C eX6_leastGap_30 (fun c8 => ?_) (fun c8 => ?_)
      · rw [if_pos c8] at hbL7
        obtain rfl := Option.some.inj hbL7
        refine r_sub (lv' := []) [] rfl ?_
        exact J6 _ rfl
      · rw [if_neg c8] at hbL7
        refine r_aload_n C eX6_leastGap_33 0 rfl rfl ?_
        refine r_get (v := .ref (a0 (o0 + 13))) C eX6_leastGap_34 FX6_24 0 rfl rfl ?_
        refine r_aload_n C eX6_leastGap_37 1 rfl rfl ?_
        refine r_get (v := .int ((gQu_ints v1) 0)) C eX6_leastGap_38 FX6_73 16 rfl rfl ?_
        refine r_iload C eX6_leastGap_41 5 rfl ?_
        refine r_bipush C (v := 50) eX6_leastGap_43 (by decide) ?_
        refine r_imul C eX6_leastGap_45 ?_
        refine r_iadd C eX6_leastGap_46 ?_
        obtain ⟨z9, hz9, hbL7⟩ := zlet_of hbL7
        refine r_nami hz9 ?_
        refine r_put (ws' := W_Se (z_g x) a0 o0 (gSh_ints (gSe_base v0)) (gSh_harm (gSe_base v0)) (gLi_fast (gSh_lines (gSe_base v0))) (gLi_place (gSh_lines (gSe_base v0))) (gLi_post (gSh_lines (gSe_base v0))) (gLi_length (gSh_lines (gSe_base v0))) (s3.2.1) (s3.2.2.1) (s3.2.2.2.1) (s3.2.2.2.2.1) (s3.2.2.2.2.2.1) (s3.2.2.2.2.2.2.1) (upd (s3.2.2.2.2.2.2.2) 0 z9) (r2.2.1) (r2.2.2) ++ W_Qu (z_g x) a1 o1 (gQu_ints v1) (gQu_places v1) (gQu_strengths v1) ++ W_Sh (z_g x) a2 o2 (gSh_ints v2) (gSh_harm v2) (gLi_fast (gSh_lines v2)) (gLi_place (gSh_lines v2)) (gLi_post (gSh_lines v2)) (gLi_length (gSh_lines v2)) ++ W_Pl (z_g x) a3 o3 (gPl_ints v3) (gPl_seconds v3) (gPl_engines v3) (gPl_wheels v3)) C eX6_leastGap_47 PX6_73 13 rfl rfl rfl (Nat.le_of_ble_eq_true rfl) rfl ?_
        refine r_aload_n C eX6_leastGap_50 0 rfl rfl ?_
        refine r_get (v := .ref (a0 (o0 + 7))) C eX6_leastGap_51 FX6_18 0 rfl rfl ?_
        refine r_aload_n C eX6_leastGap_54 2 rfl rfl ?_
        obtain ⟨r10, hr10, hbL7⟩ := zbind hbL7
        refine r_V_v (ws' := W_Se (z_g x) a0 o0 (gSh_ints (gSe_base v0)) (gSh_harm (gSe_base v0)) (gLi_fast (gSh_lines (gSe_base v0))) (gLi_place (gSh_lines (gSe_base v0))) (gLi_post (gSh_lines (gSe_base v0))) (gLi_length (gSh_lines (gSe_base v0))) (r10.1) (r10.2.1) (r10.2.2.1) (r10.2.2.2.1) (r10.2.2.2.2.1) (r10.2.2.2.2.2) (upd (s3.2.2.2.2.2.2.2) 0 z9) (r2.2.1) (r2.2.2) ++ W_Qu (z_g x) a1 o1 (gQu_ints v1) (gQu_places v1) (gQu_strengths v1) ++ W_Sh (z_g x) a2 o2 (gSh_ints v2) (gSh_harm v2) (gLi_fast (gSh_lines v2)) (gLi_place (gSh_lines v2)) (gLi_post (gSh_lines v2)) (gLi_length (gSh_lines v2)) ++ W_Pl (z_g x) a3 o3 (gPl_ints v3) (gPl_seconds v3) (gPl_engines v3) (gPl_wheels v3)) C (c_Sh_copyFrom (z_l x) (z_g x) a0 (o0 + 7) ((s3.2.1), (s3.2.2.1), ((s3.2.2.2.1), (s3.2.2.2.2.1), (s3.2.2.2.2.2.1), (s3.2.2.2.2.2.2.1))) a2 o2 v2  r10 hr10) eX6_leastGap_55 MX6_28 ⟨0, 7, _, _, rfl, rfl, rfl⟩ [7, 8, 9, 10, 11, 12, 19, 20, 21, 22, 23, 24] rfl rfl rfl rfl [0, 1, 2, 3, 4, 5, 6, 13, 14, 15, 16, 17, 18, 25, 26, 27, 28] rfl ⟨rfl, rfl, rfl, rfl, rfl, rfl, rfl, rfl, rfl, rfl, rfl, rfl, rfl, rfl, rfl, rfl, rfl, trivial⟩ 29 rfl rfl rfl rfl rfl rfl ?_
        refine r_aload_n C eX6_leastGap_58 0 rfl rfl ?_
        refine r_aload_n C eX6_leastGap_59 0 rfl rfl ?_
        refine r_get (v := .ref (a0 (o0 + 13))) C eX6_leastGap_60 FX6_24 0 rfl rfl ?_
        refine r_aload_n C eX6_leastGap_63 3 rfl rfl ?_
        refine r_iload C eX6_leastGap_64 4 rfl ?_
        obtain ⟨r11, hr11, hbL7⟩ := zbind hbL7
        refine r_V_z (ws' := W_Se (z_g x) a0 o0 (gSh_ints (gSe_base v0)) (gSh_harm (gSe_base v0)) (gLi_fast (gSh_lines (gSe_base v0))) (gLi_place (gSh_lines (gSe_base v0))) (gLi_post (gSh_lines (gSe_base v0))) (gLi_length (gSh_lines (gSe_base v0))) (r11.2.1) (r11.2.2.1) (r11.2.2.2) (r10.2.2.2.1) (r10.2.2.2.2.1) (r10.2.2.2.2.2) (upd (s3.2.2.2.2.2.2.2) 0 z9) (r2.2.1) (r2.2.2) ++ W_Qu (z_g x) a1 o1 (gQu_ints v1) (gQu_places v1) (gQu_strengths v1) ++ W_Sh (z_g x) a2 o2 (gSh_ints v2) (gSh_harm v2) (gLi_fast (gSh_lines v2)) (gLi_place (gSh_lines v2)) (gLi_post (gSh_lines v2)) (gLi_length (gSh_lines v2)) ++ W_Pl (z_g x) a3 o3 (gPl_ints v3) (gPl_seconds v3) (gPl_engines v3) (gPl_wheels v3)) C (c_Se_isSafeByPlan_other (z_l x) (z_g x) a0 o0 ((gSe_base v0), ((r10.1), (r10.2.1), ((r10.2.2.1), (r10.2.2.2.1), (r10.2.2.2.2.1), (r10.2.2.2.2.2))), ((upd (s3.2.2.2.2.2.2.2) 0 z9), (r2.2.1), (r2.2.2))) a3 o3 v3 p1 r11 hr11) eX6_leastGap_66 MX6_66 ⟨0, 6, _, _, rfl, rfl, rfl⟩ [0, 1, 2, 3, 4, 5, 6, 7, 8, 9, 10, 11, 12, 13, 14, 15, 25, 26, 27, 28] rfl rfl rfl rfl [16, 17, 18, 19, 20, 21, 22, 23, 24] rfl ⟨rfl, rfl, rfl, rfl, rfl, rfl, rfl, rfl, rfl, trivial⟩ 29 rfl rfl rfl rfl rfl rfl (fun zb12 => ?_)
        refine r_if_eq C eX6_leastGap_69 (fun c13 => ?_) (fun c13 => ?_)
        · rw [if_pos c13] at hbL7
          refine r_iinc C (v := ((s3.1) + (-1))) [(6, .int ((s3.1) + (-1))), (0, .ref (a0 o0)), (1, .ref (a1 o1)), (2, .ref (a2 o2)), (3, .ref (a3 o3)), (4, .int p1)] eX6_leastGap_88 5 rfl rfl (by decide) rfl ?_
          refine r_goto C eX6_leastGap_91 ?_
          refine r_sub (lv' := [(0, .ref (a0 o0)), (1, .ref (a1 o1)), (2, .ref (a2 o2)), (3, .ref (a3 o3)), (4, .int p1), (6, .int ((s3.1) + (-1)))]) [1, 2, 3, 4, 5, 0] rfl ?_
          have hc := ihL7 (((s3.1) + (-1)), (r11.2.1), (r11.2.2.1), (r11.2.2.2), (r10.2.2.2.1), (r10.2.2.2.2.1), (r10.2.2.2.2.2), (upd (s3.2.2.2.2.2.2.2) 0 z9)) hbL7
          exact hc
        · rw [if_neg c13] at hbL7
          refine r_aload_n C eX6_leastGap_72 0 rfl rfl ?_
          refine r_get (v := .ref (a0 (o0 + 13))) C eX6_leastGap_73 FX6_24 0 rfl rfl ?_
          refine r_get (v := .int ((s3.2.2.2.2.2.2.2) 1)) C eX6_leastGap_76 FX6_70 13 rfl rfl ?_
          refine r_aload_n C eX6_leastGap_79 0 rfl rfl ?_
          refine r_get (v := .ref (a0 (o0 + 13))) C eX6_leastGap_80 FX6_24 0 rfl rfl ?_
          refine r_get (v := .int z9) C eX6_leastGap_83 FX6_73 13 rfl rfl ?_
          refine r_isub C eX6_leastGap_86 ?_
          obtain rfl := Option.some.inj (show some (Sum.inl (((((s3.2.2.2.2.2.2.2) 1) - z9), (r11.2.1), (r11.2.2.1), (r11.2.2.2), (r10.2.2.2.1), (r10.2.2.2.2.1), (r10.2.2.2.2.2), (upd (s3.2.2.2.2.2.2.2) 0 z9), (r2.2.1), (r2.2.2)) : Int32 × (Nat → Int32) × Int64 × (Nat → Int32) × (Nat → Int32) × (Nat → Int32) × (Nat → Int32) × (Nat → Int32) × (Nat → Int32) × (Nat → Int32))) = some _ from hbL7)
          obtain rfl := Option.some.inj (show some (((((s3.2.2.2.2.2.2.2) 1) - z9), (r11.2.1), (r11.2.2.1), (r11.2.2.2), (r10.2.2.2.1), (r10.2.2.2.2.1), (r10.2.2.2.2.2), (upd (s3.2.2.2.2.2.2.2) 0 z9), (r2.2.1), (r2.2.2)) : Int32 × (Nat → Int32) × Int64 × (Nat → Int32) × (Nat → Int32) × (Nat → Int32) × (Nat → Int32) × (Nat → Int32) × (Nat → Int32) × (Nat → Int32)) = some _ from hf)
          exact hret _ _ _ eX6_leastGap_87
  refine r_sub (lv' := [(0, .ref (a0 o0)), (1, .ref (a1 o1)), (2, .ref (a2 o2)), (3, .ref (a3 o3)), (4, .int p1), (6, .int z1)]) [2, 3, 4, 5, 6, 0] rfl ?_
  have hc := L7 LF (z1, (gSh_ints (gSe_probe v0)), (gSh_harm (gSe_probe v0)), (gLi_fast (gSh_lines (gSe_probe v0))), (gLi_place (gSh_lines (gSe_probe v0))), (gLi_post (gSh_lines (gSe_probe v0))), (gLi_length (gSh_lines (gSe_probe v0))), (r2.1)) h5
  exact hc
