theorem eX11_knock_0 : zd 1 cX11_knock 0 1 (.aload_n 0) := ⟨by decide +kernel, rfl⟩
theorem eX11_knock_1 : zd 1 cX11_knock 1 2 (.iload_n 1) := ⟨by decide +kernel, rfl⟩
theorem eX11_knock_2 : zd 3 cX11_knock 2 5 (.invokevirtual 211) := ⟨by decide +kernel, rfl⟩
theorem eX11_knock_5 : zd 1 cX11_knock 5 6 (.lstore_n 2) := ⟨by decide +kernel, rfl⟩
theorem eX11_knock_6 : zd 1 cX11_knock 6 7 (.lload_n 2) := ⟨by decide +kernel, rfl⟩
theorem eX11_knock_7 : zd 1 cX11_knock 7 8 (.lconst 0) := ⟨by decide +kernel, rfl⟩
theorem eX11_knock_8 : zd 1 cX11_knock 8 9 (.lcmp) := ⟨by decide +kernel, rfl⟩
theorem eX11_knock_9 : zdi cX11_knock 9 12 13 (.ifCond .lt) := ⟨4, by decide +kernel, rfl, by decide⟩
theorem eX11_knock_12 : zd 1 cX11_knock 12 13 (.return_) := ⟨by decide +kernel, rfl⟩
theorem eX11_knock_13 : zd 1 cX11_knock 13 14 (.aload_n 0) := ⟨by decide +kernel, rfl⟩
theorem eX11_knock_14 : zd 3 cX11_knock 14 17 (.getfield 25) := ⟨by decide +kernel, rfl⟩
theorem eX11_knock_17 : zd 1 cX11_knock 17 18 (.iconst 4) := ⟨by decide +kernel, rfl⟩
theorem eX11_knock_18 : zd 1 cX11_knock 18 19 (.laload) := ⟨by decide +kernel, rfl⟩
theorem eX11_knock_19 : zd 1 cX11_knock 19 20 (.aload_n 0) := ⟨by decide +kernel, rfl⟩
theorem eX11_knock_20 : zd 3 cX11_knock 20 23 (.getfield 25) := ⟨by decide +kernel, rfl⟩
theorem eX11_knock_23 : zd 1 cX11_knock 23 24 (.iconst 3) := ⟨by decide +kernel, rfl⟩
theorem eX11_knock_24 : zd 1 cX11_knock 24 25 (.laload) := ⟨by decide +kernel, rfl⟩
theorem eX11_knock_25 : zd 1 cX11_knock 25 26 (.aload_n 0) := ⟨by decide +kernel, rfl⟩
theorem eX11_knock_26 : zd 3 cX11_knock 26 29 (.getfield 25) := ⟨by decide +kernel, rfl⟩
theorem eX11_knock_29 : zd 1 cX11_knock 29 30 (.iconst 2) := ⟨by decide +kernel, rfl⟩
theorem eX11_knock_30 : zd 1 cX11_knock 30 31 (.laload) := ⟨by decide +kernel, rfl⟩
theorem eX11_knock_31 : zd 1 cX11_knock 31 32 (.lmul) := ⟨by decide +kernel, rfl⟩
theorem eX11_knock_32 : zd 3 cX11_knock 32 35 (.ldc2_w 209) := ⟨by decide +kernel, rfl⟩
theorem eX11_knock_35 : zd 1 cX11_knock 35 36 (.ldiv) := ⟨by decide +kernel, rfl⟩
theorem eX11_knock_36 : zd 1 cX11_knock 36 37 (.ladd) := ⟨by decide +kernel, rfl⟩
theorem eX11_knock_37 : zd 1 cX11_knock 37 38 (.aload_n 0) := ⟨by decide +kernel, rfl⟩
theorem eX11_knock_38 : zd 3 cX11_knock 38 41 (.getfield 25) := ⟨by decide +kernel, rfl⟩
theorem eX11_knock_41 : zd 1 cX11_knock 41 42 (.iconst 5) := ⟨by decide +kernel, rfl⟩
theorem eX11_knock_42 : zd 1 cX11_knock 42 43 (.laload) := ⟨by decide +kernel, rfl⟩
theorem eX11_knock_43 : zd 1 cX11_knock 43 44 (.aload_n 0) := ⟨by decide +kernel, rfl⟩
theorem eX11_knock_44 : zd 1 cX11_knock 44 45 (.iload_n 1) := ⟨by decide +kernel, rfl⟩
theorem eX11_knock_45 : zd 3 cX11_knock 45 48 (.invokevirtual 205) := ⟨by decide +kernel, rfl⟩
theorem eX11_knock_48 : zd 1 cX11_knock 48 49 (.lmul) := ⟨by decide +kernel, rfl⟩
theorem eX11_knock_49 : zd 3 cX11_knock 49 52 (.ldc2_w 257) := ⟨by decide +kernel, rfl⟩
theorem eX11_knock_52 : zd 1 cX11_knock 52 53 (.ldiv) := ⟨by decide +kernel, rfl⟩
theorem eX11_knock_53 : zd 1 cX11_knock 53 54 (.ladd) := ⟨by decide +kernel, rfl⟩
theorem eX11_knock_54 : zd 3 cX11_knock 54 57 (.ldc2_w 203) := ⟨by decide +kernel, rfl⟩
theorem eX11_knock_57 : zd 1 cX11_knock 57 58 (.ldiv) := ⟨by decide +kernel, rfl⟩
theorem eX11_knock_58 : zd 2 cX11_knock 58 60 (.lstore 4) := ⟨by decide +kernel, rfl⟩
theorem eX11_knock_60 : zd 2 cX11_knock 60 62 (.lload 4) := ⟨by decide +kernel, rfl⟩
theorem eX11_knock_62 : zd 1 cX11_knock 62 63 (.aload_n 0) := ⟨by decide +kernel, rfl⟩
theorem eX11_knock_63 : zd 3 cX11_knock 63 66 (.getfield 7) := ⟨by decide +kernel, rfl⟩
theorem eX11_knock_66 : zd 2 cX11_knock 66 68 (.bipush 12) := ⟨by decide +kernel, rfl⟩
theorem eX11_knock_68 : zd 1 cX11_knock 68 69 (.iaload) := ⟨by decide +kernel, rfl⟩
theorem eX11_knock_69 : zd 1 cX11_knock 69 70 (.i2l) := ⟨by decide +kernel, rfl⟩
theorem eX11_knock_70 : zd 1 cX11_knock 70 71 (.lcmp) := ⟨by decide +kernel, rfl⟩
theorem eX11_knock_71 : zdi cX11_knock 71 74 112 (.ifCond .le) := ⟨41, by decide +kernel, rfl, by decide⟩
theorem eX11_knock_74 : zd 1 cX11_knock 74 75 (.aload_n 0) := ⟨by decide +kernel, rfl⟩
theorem eX11_knock_75 : zd 3 cX11_knock 75 78 (.getfield 25) := ⟨by decide +kernel, rfl⟩
theorem eX11_knock_78 : zd 2 cX11_knock 78 80 (.bipush 11) := ⟨by decide +kernel, rfl⟩
theorem eX11_knock_80 : zd 1 cX11_knock 80 81 (.dup2) := ⟨by decide +kernel, rfl⟩
theorem eX11_knock_81 : zd 1 cX11_knock 81 82 (.laload) := ⟨by decide +kernel, rfl⟩
theorem eX11_knock_82 : zd 1 cX11_knock 82 83 (.lconst 1) := ⟨by decide +kernel, rfl⟩
theorem eX11_knock_83 : zd 1 cX11_knock 83 84 (.ladd) := ⟨by decide +kernel, rfl⟩
theorem eX11_knock_84 : zd 1 cX11_knock 84 85 (.lastore) := ⟨by decide +kernel, rfl⟩
theorem eX11_knock_85 : zd 1 cX11_knock 85 86 (.aload_n 0) := ⟨by decide +kernel, rfl⟩
theorem eX11_knock_86 : zd 3 cX11_knock 86 89 (.getfield 25) := ⟨by decide +kernel, rfl⟩
theorem eX11_knock_89 : zd 2 cX11_knock 89 91 (.bipush 10) := ⟨by decide +kernel, rfl⟩
theorem eX11_knock_91 : zd 1 cX11_knock 91 92 (.dup2) := ⟨by decide +kernel, rfl⟩
theorem eX11_knock_92 : zd 1 cX11_knock 92 93 (.laload) := ⟨by decide +kernel, rfl⟩
theorem eX11_knock_93 : zd 2 cX11_knock 93 95 (.lload 4) := ⟨by decide +kernel, rfl⟩
theorem eX11_knock_95 : zd 2 cX11_knock 95 97 (.lload 4) := ⟨by decide +kernel, rfl⟩
theorem eX11_knock_97 : zd 1 cX11_knock 97 98 (.lmul) := ⟨by decide +kernel, rfl⟩
theorem eX11_knock_98 : zd 1 cX11_knock 98 99 (.aload_n 0) := ⟨by decide +kernel, rfl⟩
theorem eX11_knock_99 : zd 3 cX11_knock 99 102 (.getfield 7) := ⟨by decide +kernel, rfl⟩
theorem eX11_knock_102 : zd 1 cX11_knock 102 103 (.iconst 3) := ⟨by decide +kernel, rfl⟩
theorem eX11_knock_103 : zd 1 cX11_knock 103 104 (.iaload) := ⟨by decide +kernel, rfl⟩
theorem eX11_knock_104 : zd 1 cX11_knock 104 105 (.i2l) := ⟨by decide +kernel, rfl⟩
theorem eX11_knock_105 : zd 1 cX11_knock 105 106 (.lmul) := ⟨by decide +kernel, rfl⟩
theorem eX11_knock_106 : zd 3 cX11_knock 106 109 (.ldc2_w 234) := ⟨by decide +kernel, rfl⟩
theorem eX11_knock_109 : zd 1 cX11_knock 109 110 (.ldiv) := ⟨by decide +kernel, rfl⟩
theorem eX11_knock_110 : zd 1 cX11_knock 110 111 (.ladd) := ⟨by decide +kernel, rfl⟩
theorem eX11_knock_111 : zd 1 cX11_knock 111 112 (.lastore) := ⟨by decide +kernel, rfl⟩
theorem eX11_knock_112 : zd 2 cX11_knock 112 114 (.lload 4) := ⟨by decide +kernel, rfl⟩
theorem eX11_knock_114 : zd 1 cX11_knock 114 115 (.lconst 0) := ⟨by decide +kernel, rfl⟩
theorem eX11_knock_115 : zd 1 cX11_knock 115 116 (.lcmp) := ⟨by decide +kernel, rfl⟩
theorem eX11_knock_116 : zdi cX11_knock 116 119 143 (.ifCond .le) := ⟨27, by decide +kernel, rfl, by decide⟩
theorem eX11_knock_119 : zd 1 cX11_knock 119 120 (.aload_n 0) := ⟨by decide +kernel, rfl⟩
theorem eX11_knock_120 : zd 3 cX11_knock 120 123 (.getfield 25) := ⟨by decide +kernel, rfl⟩
theorem eX11_knock_123 : zd 1 cX11_knock 123 124 (.iconst 4) := ⟨by decide +kernel, rfl⟩
theorem eX11_knock_124 : zd 1 cX11_knock 124 125 (.lconst 0) := ⟨by decide +kernel, rfl⟩
theorem eX11_knock_125 : zd 1 cX11_knock 125 126 (.lastore) := ⟨by decide +kernel, rfl⟩
theorem eX11_knock_126 : zd 1 cX11_knock 126 127 (.aload_n 0) := ⟨by decide +kernel, rfl⟩
theorem eX11_knock_127 : zd 3 cX11_knock 127 130 (.getfield 25) := ⟨by decide +kernel, rfl⟩
theorem eX11_knock_130 : zd 1 cX11_knock 130 131 (.iconst 5) := ⟨by decide +kernel, rfl⟩
theorem eX11_knock_131 : zd 1 cX11_knock 131 132 (.aload_n 0) := ⟨by decide +kernel, rfl⟩
theorem eX11_knock_132 : zd 3 cX11_knock 132 135 (.getfield 25) := ⟨by decide +kernel, rfl⟩
theorem eX11_knock_135 : zd 1 cX11_knock 135 136 (.iconst 5) := ⟨by decide +kernel, rfl⟩
theorem eX11_knock_136 : zd 1 cX11_knock 136 137 (.laload) := ⟨by decide +kernel, rfl⟩
theorem eX11_knock_137 : zd 3 cX11_knock 137 140 (.ldc2_w 259) := ⟨by decide +kernel, rfl⟩
theorem eX11_knock_140 : zd 1 cX11_knock 140 141 (.ldiv) := ⟨by decide +kernel, rfl⟩
theorem eX11_knock_141 : zd 1 cX11_knock 141 142 (.lneg) := ⟨by decide +kernel, rfl⟩
theorem eX11_knock_142 : zd 1 cX11_knock 142 143 (.lastore) := ⟨by decide +kernel, rfl⟩
theorem eX11_knock_143 : zd 1 cX11_knock 143 144 (.aload_n 0) := ⟨by decide +kernel, rfl⟩
theorem eX11_knock_144 : zd 3 cX11_knock 144 147 (.getfield 25) := ⟨by decide +kernel, rfl⟩
theorem eX11_knock_147 : zd 1 cX11_knock 147 148 (.iconst 1) := ⟨by decide +kernel, rfl⟩
theorem eX11_knock_148 : zd 1 cX11_knock 148 149 (.dup2) := ⟨by decide +kernel, rfl⟩
theorem eX11_knock_149 : zd 1 cX11_knock 149 150 (.laload) := ⟨by decide +kernel, rfl⟩
theorem eX11_knock_150 : zd 1 cX11_knock 150 151 (.lload_n 2) := ⟨by decide +kernel, rfl⟩
theorem eX11_knock_151 : zd 1 cX11_knock 151 152 (.lsub) := ⟨by decide +kernel, rfl⟩
theorem eX11_knock_152 : zd 1 cX11_knock 152 153 (.lastore) := ⟨by decide +kernel, rfl⟩
theorem eX11_knock_153 : zd 1 cX11_knock 153 154 (.return_) := ⟨by decide +kernel, rfl⟩
noncomputable def f_Mo_knock (v0 : tMo) (p1 : Int32) : (Nat → Int64) := (zlet (f_Mo_freely v0 p1) (fun (z1 : Int64) => (if z1 < 0 then (zlet (((((gMo_ship v0) 4) + ((((gMo_ship v0) 3) * ((gMo_ship v0) 2)) / 57296)) + ((((gMo_ship v0) 5) * (f_Mo_arm v0 p1)) / 573)) / 100) (fun (z3 : Int64) => (zlet (if z3 ≤ ((gMo_told v0) 12).toInt64 then (gMo_ship v0) else (zlet (((gMo_ship v0) 11) + 1) (fun (z7 : Int64) => (zlet (((gMo_ship v0) 10) + (((z3 * z3) * ((gMo_told v0) 3).toInt64) / 10)) (fun (z8 : Int64) => (vp_updL (vp_updL (gMo_ship v0) 11 z7) 10 z8)))))) (fun (w4 : (Nat → Int64)) => (zlet (if z3 ≤ 0 then w4 else (zlet (-((w4 5) / 3)) (fun (z12 : Int64) => (vp_updL (vp_updL w4 4 0) 5 z12)))) (fun (w9 : (Nat → Int64)) => (zlet ((w9 1) - z1) (fun (z13 : Int64) => (vp_updL w9 1 z13))))))))) else (gMo_ship v0))))
abbrev rm_Mo_knock : Room := { frames := 2, cells := 0, slots := 0, locals := 42 }
set_option maxHeartbeats 4000000 in
set_option maxRecDepth 100000 in
theorem c_Mo_knock (l : Launch) (g : zGl) (a0 : Nat → Nat) (o0 : Nat) (v0 : tMo) (p1 : Int32) (out : (Nat → Int64)) (hf : f_Mo_knock v0 p1 = out) : zMv l yX11_knock cX11_knock 6 rm_Mo_knock g [.ref (a0 o0), .int p1] (W_Mo g a0 o0 (gMo_ints v0) (gMo_told v0) (gMo_postX v0) (gMo_postStrong v0) (gMo_atRow v0) (gMo_heights v0) (gMo_ship v0) (gMo_lines v0) (gMo_text v0) (gMo_said v0) (gMo_readTold v0) (gMo_readX v0) (gMo_readStrong v0) (gMo_readRow v0) (gMo_parting v0) (gMo_wasShip v0) (gMo_wasLines v0) (gMo_worst v0) (gMo_logRow v0) (gMo_images v0) (gMo_isKept v0))  (W_Mo g a0 o0 (gMo_ints v0) (gMo_told v0) (gMo_postX v0) (gMo_postStrong v0) (gMo_atRow v0) (gMo_heights v0) out (gMo_lines v0) (gMo_text v0) (gMo_said v0) (gMo_readTold v0) (gMo_readX v0) (gMo_readStrong v0) (gMo_readRow v0) (gMo_parting v0) (gMo_wasShip v0) (gMo_wasLines v0) (gMo_worst v0) (gMo_logRow v0) (gMo_images v0) (gMo_isKept v0)) := by
  refine zMv_of (lv := [(0, .ref (a0 o0)), (1, .int p1)]) (by decide) (Nat.le_of_ble_eq_true rfl) rfl (fun x hl hg C hret => ?_)
  subst hl; subst hg
  rw [f_Mo_knock] at hf
  refine r_aload_n C eX11_knock_0 0 rfl rfl ?_
  refine r_iload_n C eX11_knock_1 1 rfl rfl ?_
  refine r_V_l (ws' := W_Mo (z_g x) a0 o0 (gMo_ints v0) (gMo_told v0) (gMo_postX v0) (gMo_postStrong v0) (gMo_atRow v0) (gMo_heights v0) (gMo_ship v0) (gMo_lines v0) (gMo_text v0) (gMo_said v0) (gMo_readTold v0) (gMo_readX v0) (gMo_readStrong v0) (gMo_readRow v0) (gMo_parting v0) (gMo_wasShip v0) (gMo_wasLines v0) (gMo_worst v0) (gMo_logRow v0) (gMo_images v0) (gMo_isKept v0)) C (c_Mo_freely (z_l x) (z_g x) a0 o0 v0 p1 _ rfl) eX11_knock_2 MX11_211 ⟨0, 11, _, _, rfl, rfl, rfl⟩ [0, 1, 2, 3, 4, 5, 6, 7, 8, 9, 10, 11, 12, 13, 14, 15, 16, 17, 18, 19] rfl rfl rfl rfl [] rfl trivial 20 rfl rfl rfl rfl rfl rfl ?_
  obtain ⟨z1, hz1, hf⟩ := zlet_of hf
  refine r_naml hz1 ?_
  refine r_lstore_n C [(2, .long z1), (0, .ref (a0 o0)), (1, .int p1)] eX11_knock_5 rfl (by decide) rfl ?_
  refine r_lload_n C eX11_knock_6 0 rfl rfl ?_
  refine r_lconst C (v := 0) eX11_knock_7 (by decide) ?_
  refine r_lcmp_lt C eX11_knock_8 eX11_knock_9 (fun c2 => ?_) (fun c2 => ?_)
  · rw [if_pos c2] at hf
    refine r_aload_n C eX11_knock_13 1 rfl rfl ?_
    refine r_get (v := .ref (a0 (o0 + 6))) C eX11_knock_14 FX11_25 0 rfl rfl ?_
    refine r_iconst C (v := 4) eX11_knock_17 (by decide) ?_
    refine r_laldN C eX11_knock_18 6 4 (by decide) rfl ((gMo_ship v0) 4) rfl ?_
    refine r_aload_n C eX11_knock_19 1 rfl rfl ?_
    refine r_get (v := .ref (a0 (o0 + 6))) C eX11_knock_20 FX11_25 0 rfl rfl ?_
    refine r_iconst C (v := 3) eX11_knock_23 (by decide) ?_
    refine r_laldN C eX11_knock_24 6 3 (by decide) rfl ((gMo_ship v0) 3) rfl ?_
    refine r_aload_n C eX11_knock_25 1 rfl rfl ?_
    refine r_get (v := .ref (a0 (o0 + 6))) C eX11_knock_26 FX11_25 0 rfl rfl ?_
    refine r_iconst C (v := 2) eX11_knock_29 (by decide) ?_
    refine r_laldN C eX11_knock_30 6 2 (by decide) rfl ((gMo_ship v0) 2) rfl ?_
    refine r_lmul C eX11_knock_31 ?_
    refine r_ldc2 C (v := 57296) eX11_knock_32 q1316 ?_
    refine r_ldiv C eX11_knock_35 (by decide) ?_
    refine r_ladd C eX11_knock_36 ?_
    refine r_aload_n C eX11_knock_37 1 rfl rfl ?_
    refine r_get (v := .ref (a0 (o0 + 6))) C eX11_knock_38 FX11_25 0 rfl rfl ?_
    refine r_iconst C (v := 5) eX11_knock_41 (by decide) ?_
    refine r_laldN C eX11_knock_42 6 5 (by decide) rfl ((gMo_ship v0) 5) rfl ?_
    refine r_aload_n C eX11_knock_43 1 rfl rfl ?_
    refine r_iload_n C eX11_knock_44 2 rfl rfl ?_
    refine r_V_l (ws' := W_Mo (z_g x) a0 o0 (gMo_ints v0) (gMo_told v0) (gMo_postX v0) (gMo_postStrong v0) (gMo_atRow v0) (gMo_heights v0) (gMo_ship v0) (gMo_lines v0) (gMo_text v0) (gMo_said v0) (gMo_readTold v0) (gMo_readX v0) (gMo_readStrong v0) (gMo_readRow v0) (gMo_parting v0) (gMo_wasShip v0) (gMo_wasLines v0) (gMo_worst v0) (gMo_logRow v0) (gMo_images v0) (gMo_isKept v0)) C (c_Mo_arm (z_l x) (z_g x) a0 o0 v0 p1 _ rfl) eX11_knock_45 MX11_205 ⟨0, 11, _, _, rfl, rfl, rfl⟩ [0, 1, 2, 3, 4, 5, 6, 7, 8, 9, 10, 11, 12, 13, 14, 15, 16, 17, 18, 19] rfl rfl rfl rfl [] rfl trivial 20 rfl rfl rfl rfl rfl rfl ?_
    refine r_lmul C eX11_knock_48 ?_
    refine r_ldc2 C (v := 573) eX11_knock_49 q1381 ?_
    refine r_ldiv C eX11_knock_52 (by decide) ?_
    refine r_ladd C eX11_knock_53 ?_
    refine r_ldc2 C (v := 100) eX11_knock_54 q1315 ?_
    refine r_ldiv C eX11_knock_57 (by decide) ?_
    obtain ⟨z3, hz3, hf⟩ := zlet_of hf
    refine r_naml hz3 ?_
    refine r_lstore C [(4, .long z3), (2, .long z1), (0, .ref (a0 o0)), (1, .int p1)] eX11_knock_58 (by decide) rfl ?_
    refine r_lload C eX11_knock_60 0 rfl ?_
    refine r_aload_n C eX11_knock_62 2 rfl rfl ?_
    refine r_get (v := .ref (a0 (o0 + 1))) C eX11_knock_63 FX11_7 0 rfl rfl ?_
    refine r_bipush C (v := 12) eX11_knock_66 (by decide) ?_
    refine r_ialdN C eX11_knock_68 1 12 (by decide) rfl ((gMo_told v0) 12) rfl ?_
    refine r_i2l C eX11_knock_69 ?_
    obtain ⟨w4, hw4, hf⟩ := zlet_of hf
    have J5 : vV x 6 0 0 (W_Mo (z_g x) a0 o0 (gMo_ints v0) (gMo_told v0) (gMo_postX v0) (gMo_postStrong v0) (gMo_atRow v0) (gMo_heights v0) w4 (gMo_lines v0) (gMo_text v0) (gMo_said v0) (gMo_readTold v0) (gMo_readX v0) (gMo_readStrong v0) (gMo_readRow v0) (gMo_parting v0) (gMo_wasShip v0) (gMo_wasLines v0) (gMo_worst v0) (gMo_logRow v0) (gMo_images v0) (gMo_isKept v0)) 112 [(0, .ref (a0 o0)), (2, .long z1), (4, .long z3)] [] := by
      refine r_lload C eX11_knock_112 2 rfl ?_
      refine r_lconst C (v := 0) eX11_knock_114 (by decide) ?_
      obtain ⟨w9, hw9, hf⟩ := zlet_of hf
      have J10 : vV x 6 0 0 (W_Mo (z_g x) a0 o0 (gMo_ints v0) (gMo_told v0) (gMo_postX v0) (gMo_postStrong v0) (gMo_atRow v0) (gMo_heights v0) w9 (gMo_lines v0) (gMo_text v0) (gMo_said v0) (gMo_readTold v0) (gMo_readX v0) (gMo_readStrong v0) (gMo_readRow v0) (gMo_parting v0) (gMo_wasShip v0) (gMo_wasLines v0) (gMo_worst v0) (gMo_logRow v0) (gMo_images v0) (gMo_isKept v0)) 143 [(0, .ref (a0 o0)), (2, .long z1)] [] := by
        refine r_aload_n C eX11_knock_143 0 rfl rfl ?_
        refine r_get (v := .ref (a0 (o0 + 6))) C eX11_knock_144 FX11_25 0 rfl rfl ?_
        refine r_iconst C (v := 1) eX11_knock_147 (by decide) ?_
        refine r_dup2 C eX11_knock_148 rfl rfl ?_
        refine r_laldN C eX11_knock_149 6 1 (by decide) rfl (w9 1) rfl ?_
        refine r_lload_n C eX11_knock_150 1 rfl rfl ?_
        refine r_lsub C eX11_knock_151 ?_
        obtain ⟨z13, hz13, hf⟩ := zlet_of hf
        refine r_naml hz13 ?_
        refine r_lastN (ws' := W_Mo (z_g x) a0 o0 (gMo_ints v0) (gMo_told v0) (gMo_postX v0) (gMo_postStrong v0) (gMo_atRow v0) (gMo_heights v0) (vp_updL w9 1 z13) (gMo_lines v0) (gMo_text v0) (gMo_said v0) (gMo_readTold v0) (gMo_readX v0) (gMo_readStrong v0) (gMo_readRow v0) (gMo_parting v0) (gMo_wasShip v0) (gMo_wasLines v0) (gMo_worst v0) (gMo_logRow v0) (gMo_images v0) (gMo_isKept v0)) C eX11_knock_152 6 1 (by decide) rfl rfl ?_
        subst hf
        exact hret _ _ _ eX11_knock_153
      refine r_lcmp_le C eX11_knock_115 eX11_knock_116 (fun c11 => ?_) (fun c11 => ?_)
      · rw [if_pos c11] at hw9
        subst hw9
        refine r_sub (lv' := [(0, .ref (a0 o0)), (2, .long z1)]) [0, 1] rfl ?_
        exact J10 
      · rw [if_neg c11] at hw9
        refine r_aload_n C eX11_knock_119 0 rfl rfl ?_
        refine r_get (v := .ref (a0 (o0 + 6))) C eX11_knock_120 FX11_25 0 rfl rfl ?_
        refine r_iconst C (v := 4) eX11_knock_123 (by decide) ?_
        refine r_lconst C (v := 0) eX11_knock_124 (by decide) ?_
        refine r_lastN (ws' := W_Mo (z_g x) a0 o0 (gMo_ints v0) (gMo_told v0) (gMo_postX v0) (gMo_postStrong v0) (gMo_atRow v0) (gMo_heights v0) (vp_updL w4 4 0) (gMo_lines v0) (gMo_text v0) (gMo_said v0) (gMo_readTold v0) (gMo_readX v0) (gMo_readStrong v0) (gMo_readRow v0) (gMo_parting v0) (gMo_wasShip v0) (gMo_wasLines v0) (gMo_worst v0) (gMo_logRow v0) (gMo_images v0) (gMo_isKept v0)) C eX11_knock_125 6 4 (by decide) rfl rfl ?_
        refine r_aload_n C eX11_knock_126 0 rfl rfl ?_
        refine r_get (v := .ref (a0 (o0 + 6))) C eX11_knock_127 FX11_25 0 rfl rfl ?_
        refine r_iconst C (v := 5) eX11_knock_130 (by decide) ?_
        refine r_aload_n C eX11_knock_131 0 rfl rfl ?_
        refine r_get (v := .ref (a0 (o0 + 6))) C eX11_knock_132 FX11_25 0 rfl rfl ?_
        refine r_iconst C (v := 5) eX11_knock_135 (by decide) ?_
        refine r_laldN C eX11_knock_136 6 5 (by decide) rfl (w4 5) rfl ?_
        refine r_ldc2 C (v := 3) eX11_knock_137 q1382 ?_
        refine r_ldiv C eX11_knock_140 (by decide) ?_
        refine r_lneg C eX11_knock_141 ?_
        obtain ⟨z12, hz12, hw9⟩ := zlet_of hw9
        refine r_naml hz12 ?_
        refine r_lastN (ws' := W_Mo (z_g x) a0 o0 (gMo_ints v0) (gMo_told v0) (gMo_postX v0) (gMo_postStrong v0) (gMo_atRow v0) (gMo_heights v0) (vp_updL (vp_updL w4 4 0) 5 z12) (gMo_lines v0) (gMo_text v0) (gMo_said v0) (gMo_readTold v0) (gMo_readX v0) (gMo_readStrong v0) (gMo_readRow v0) (gMo_parting v0) (gMo_wasShip v0) (gMo_wasLines v0) (gMo_worst v0) (gMo_logRow v0) (gMo_images v0) (gMo_isKept v0)) C eX11_knock_142 6 5 (by decide) rfl rfl ?_
        subst hw9
        refine r_sub (lv' := [(0, .ref (a0 o0)), (2, .long z1)]) [0, 1] rfl ?_
        exact J10 
    refine r_lcmp_le C eX11_knock_70 eX11_knock_71 (fun c6 => ?_) (fun c6 => ?_)
    · rw [if_pos c6] at hw4
      subst hw4
      refine r_sub (lv' := [(0, .ref (a0 o0)), (2, .long z1), (4, .long z3)]) [2, 1, 0] rfl ?_
      exact J5 
    · rw [if_neg c6] at hw4
      refine r_aload_n C eX11_knock_74 2 rfl rfl ?_
      refine r_get (v := .ref (a0 (o0 + 6))) C eX11_knock_75 FX11_25 0 rfl rfl ?_
      refine r_bipush C (v := 11) eX11_knock_78 (by decide) ?_
      refine r_dup2 C eX11_knock_80 rfl rfl ?_
      refine r_laldN C eX11_knock_81 6 11 (by decide) rfl ((gMo_ship v0) 11) rfl ?_
      refine r_lconst C (v := 1) eX11_knock_82 (by decide) ?_
      refine r_ladd C eX11_knock_83 ?_
      obtain ⟨z7, hz7, hw4⟩ := zlet_of hw4
      refine r_naml hz7 ?_
      refine r_lastN (ws' := W_Mo (z_g x) a0 o0 (gMo_ints v0) (gMo_told v0) (gMo_postX v0) (gMo_postStrong v0) (gMo_atRow v0) (gMo_heights v0) (vp_updL (gMo_ship v0) 11 z7) (gMo_lines v0) (gMo_text v0) (gMo_said v0) (gMo_readTold v0) (gMo_readX v0) (gMo_readStrong v0) (gMo_readRow v0) (gMo_parting v0) (gMo_wasShip v0) (gMo_wasLines v0) (gMo_worst v0) (gMo_logRow v0) (gMo_images v0) (gMo_isKept v0)) C eX11_knock_84 6 11 (by decide) rfl rfl ?_
      refine r_aload_n C eX11_knock_85 2 rfl rfl ?_
      refine r_get (v := .ref (a0 (o0 + 6))) C eX11_knock_86 FX11_25 0 rfl rfl ?_
      refine r_bipush C (v := 10) eX11_knock_89 (by decide) ?_
      refine r_dup2 C eX11_knock_91 rfl rfl ?_
      refine r_laldN C eX11_knock_92 6 10 (by decide) rfl ((gMo_ship v0) 10) rfl ?_
      refine r_lload C eX11_knock_93 0 rfl ?_
      refine r_lload C eX11_knock_95 0 rfl ?_
      refine r_lmul C eX11_knock_97 ?_
      refine r_aload_n C eX11_knock_98 2 rfl rfl ?_
      refine r_get (v := .ref (a0 (o0 + 1))) C eX11_knock_99 FX11_7 0 rfl rfl ?_
      refine r_iconst C (v := 3) eX11_knock_102 (by decide) ?_
      refine r_ialdN C eX11_knock_103 1 3 (by decide) rfl ((gMo_told v0) 3) rfl ?_
      refine r_i2l C eX11_knock_104 ?_
      refine r_lmul C eX11_knock_105 ?_
      refine r_ldc2 C (v := 10) eX11_knock_106 q1366 ?_
      refine r_ldiv C eX11_knock_109 (by decide) ?_
      refine r_ladd C eX11_knock_110 ?_
      obtain ⟨z8, hz8, hw4⟩ := zlet_of hw4
      refine r_naml hz8 ?_
      refine r_lastN (ws' := W_Mo (z_g x) a0 o0 (gMo_ints v0) (gMo_told v0) (gMo_postX v0) (gMo_postStrong v0) (gMo_atRow v0) (gMo_heights v0) (vp_updL (vp_updL (gMo_ship v0) 11 z7) 10 z8) (gMo_lines v0) (gMo_text v0) (gMo_said v0) (gMo_readTold v0) (gMo_readX v0) (gMo_readStrong v0) (gMo_readRow v0) (gMo_parting v0) (gMo_wasShip v0) (gMo_wasLines v0) (gMo_worst v0) (gMo_logRow v0) (gMo_images v0) (gMo_isKept v0)) C eX11_knock_111 6 10 (by decide) rfl rfl ?_
      subst hw4
      refine r_sub (lv' := [(0, .ref (a0 o0)), (2, .long z1), (4, .long z3)]) [2, 1, 0] rfl ?_
      exact J5 
  · rw [if_neg c2] at hf
    subst hf
    exact hret _ _ _ eX11_knock_12
theorem eX11_meet_0 : zd 1 cX11_meet 0 1 (.aload_n 0) := ⟨by decide +kernel, rfl⟩
theorem eX11_meet_1 : zd 3 cX11_meet 1 4 (.getfield 25) := ⟨by decide +kernel, rfl⟩
theorem eX11_meet_4 : zd 1 cX11_meet 4 5 (.iconst 3) := ⟨by decide +kernel, rfl⟩
theorem eX11_meet_5 : zd 1 cX11_meet 5 6 (.laload) := ⟨by decide +kernel, rfl⟩
theorem eX11_meet_6 : zd 3 cX11_meet 6 9 (.ldc2_w 203) := ⟨by decide +kernel, rfl⟩
theorem eX11_meet_9 : zd 1 cX11_meet 9 10 (.ldiv) := ⟨by decide +kernel, rfl⟩
theorem eX11_meet_10 : zd 1 cX11_meet 10 11 (.lstore_n 1) := ⟨by decide +kernel, rfl⟩
theorem eX11_meet_11 : zd 1 cX11_meet 11 12 (.aload_n 0) := ⟨by decide +kernel, rfl⟩
theorem eX11_meet_12 : zd 2 cX11_meet 12 14 (.bipush 100) := ⟨by decide +kernel, rfl⟩
theorem eX11_meet_14 : zd 3 cX11_meet 14 17 (.invokevirtual 218) := ⟨by decide +kernel, rfl⟩
theorem eX11_meet_17 : zd 1 cX11_meet 17 18 (.aload_n 0) := ⟨by decide +kernel, rfl⟩
theorem eX11_meet_18 : zd 3 cX11_meet 18 21 (.getfield 7) := ⟨by decide +kernel, rfl⟩
theorem eX11_meet_21 : zd 1 cX11_meet 21 22 (.iconst 1) := ⟨by decide +kernel, rfl⟩
theorem eX11_meet_22 : zd 1 cX11_meet 22 23 (.iaload) := ⟨by decide +kernel, rfl⟩
theorem eX11_meet_23 : zd 1 cX11_meet 23 24 (.i2l) := ⟨by decide +kernel, rfl⟩
theorem eX11_meet_24 : zd 1 cX11_meet 24 25 (.lsub) := ⟨by decide +kernel, rfl⟩
theorem eX11_meet_25 : zd 1 cX11_meet 25 26 (.lstore_n 3) := ⟨by decide +kernel, rfl⟩
theorem eX11_meet_26 : zd 1 cX11_meet 26 27 (.lload_n 3) := ⟨by decide +kernel, rfl⟩
theorem eX11_meet_27 : zd 1 cX11_meet 27 28 (.lconst 0) := ⟨by decide +kernel, rfl⟩
theorem eX11_meet_28 : zd 1 cX11_meet 28 29 (.lcmp) := ⟨by decide +kernel, rfl⟩
theorem eX11_meet_29 : zdi cX11_meet 29 32 84 (.ifCond .le) := ⟨55, by decide +kernel, rfl, by decide⟩
theorem eX11_meet_32 : zd 1 cX11_meet 32 33 (.aload_n 0) := ⟨by decide +kernel, rfl⟩
theorem eX11_meet_33 : zd 3 cX11_meet 33 36 (.getfield 25) := ⟨by decide +kernel, rfl⟩
theorem eX11_meet_36 : zd 2 cX11_meet 36 38 (.bipush 10) := ⟨by decide +kernel, rfl⟩
theorem eX11_meet_38 : zd 1 cX11_meet 38 39 (.dup2) := ⟨by decide +kernel, rfl⟩
theorem eX11_meet_39 : zd 1 cX11_meet 39 40 (.laload) := ⟨by decide +kernel, rfl⟩
theorem eX11_meet_40 : zd 1 cX11_meet 40 41 (.lload_n 1) := ⟨by decide +kernel, rfl⟩
theorem eX11_meet_41 : zd 1 cX11_meet 41 42 (.lconst 0) := ⟨by decide +kernel, rfl⟩
theorem eX11_meet_42 : zd 1 cX11_meet 42 43 (.lcmp) := ⟨by decide +kernel, rfl⟩
theorem eX11_meet_43 : zdi cX11_meet 43 46 64 (.ifCond .le) := ⟨21, by decide +kernel, rfl, by decide⟩
theorem eX11_meet_46 : zd 1 cX11_meet 46 47 (.lload_n 1) := ⟨by decide +kernel, rfl⟩
theorem eX11_meet_47 : zd 1 cX11_meet 47 48 (.lload_n 1) := ⟨by decide +kernel, rfl⟩
theorem eX11_meet_48 : zd 1 cX11_meet 48 49 (.lmul) := ⟨by decide +kernel, rfl⟩
theorem eX11_meet_49 : zd 1 cX11_meet 49 50 (.aload_n 0) := ⟨by decide +kernel, rfl⟩
theorem eX11_meet_50 : zd 3 cX11_meet 50 53 (.getfield 7) := ⟨by decide +kernel, rfl⟩
theorem eX11_meet_53 : zd 1 cX11_meet 53 54 (.iconst 3) := ⟨by decide +kernel, rfl⟩
theorem eX11_meet_54 : zd 1 cX11_meet 54 55 (.iaload) := ⟨by decide +kernel, rfl⟩
theorem eX11_meet_55 : zd 1 cX11_meet 55 56 (.i2l) := ⟨by decide +kernel, rfl⟩
theorem eX11_meet_56 : zd 1 cX11_meet 56 57 (.lmul) := ⟨by decide +kernel, rfl⟩
theorem eX11_meet_57 : zd 3 cX11_meet 57 60 (.ldc2_w 234) := ⟨by decide +kernel, rfl⟩
theorem eX11_meet_60 : zd 1 cX11_meet 60 61 (.ldiv) := ⟨by decide +kernel, rfl⟩
theorem eX11_meet_61 : zdi cX11_meet 61 64 65 (.goto) := ⟨4, by decide +kernel, rfl, by decide⟩
theorem eX11_meet_64 : zd 1 cX11_meet 64 65 (.lconst 0) := ⟨by decide +kernel, rfl⟩
theorem eX11_meet_65 : zd 1 cX11_meet 65 66 (.ladd) := ⟨by decide +kernel, rfl⟩
theorem eX11_meet_66 : zd 1 cX11_meet 66 67 (.lastore) := ⟨by decide +kernel, rfl⟩
theorem eX11_meet_67 : zd 1 cX11_meet 67 68 (.aload_n 0) := ⟨by decide +kernel, rfl⟩
theorem eX11_meet_68 : zd 3 cX11_meet 68 71 (.getfield 25) := ⟨by decide +kernel, rfl⟩
theorem eX11_meet_71 : zd 1 cX11_meet 71 72 (.iconst 3) := ⟨by decide +kernel, rfl⟩
theorem eX11_meet_72 : zd 1 cX11_meet 72 73 (.lconst 0) := ⟨by decide +kernel, rfl⟩
theorem eX11_meet_73 : zd 1 cX11_meet 73 74 (.lastore) := ⟨by decide +kernel, rfl⟩
theorem eX11_meet_74 : zd 1 cX11_meet 74 75 (.aload_n 0) := ⟨by decide +kernel, rfl⟩
theorem eX11_meet_75 : zd 3 cX11_meet 75 78 (.getfield 25) := ⟨by decide +kernel, rfl⟩
theorem eX11_meet_78 : zd 1 cX11_meet 78 79 (.iconst 0) := ⟨by decide +kernel, rfl⟩
theorem eX11_meet_79 : zd 1 cX11_meet 79 80 (.dup2) := ⟨by decide +kernel, rfl⟩
theorem eX11_meet_80 : zd 1 cX11_meet 80 81 (.laload) := ⟨by decide +kernel, rfl⟩
theorem eX11_meet_81 : zd 1 cX11_meet 81 82 (.lload_n 3) := ⟨by decide +kernel, rfl⟩
theorem eX11_meet_82 : zd 1 cX11_meet 82 83 (.lsub) := ⟨by decide +kernel, rfl⟩
theorem eX11_meet_83 : zd 1 cX11_meet 83 84 (.lastore) := ⟨by decide +kernel, rfl⟩
theorem eX11_meet_84 : zd 1 cX11_meet 84 85 (.aload_n 0) := ⟨by decide +kernel, rfl⟩
theorem eX11_meet_85 : zd 3 cX11_meet 85 88 (.getfield 25) := ⟨by decide +kernel, rfl⟩
theorem eX11_meet_88 : zd 1 cX11_meet 88 89 (.iconst 3) := ⟨by decide +kernel, rfl⟩
theorem eX11_meet_89 : zd 1 cX11_meet 89 90 (.laload) := ⟨by decide +kernel, rfl⟩
theorem eX11_meet_90 : zd 3 cX11_meet 90 93 (.ldc2_w 203) := ⟨by decide +kernel, rfl⟩
theorem eX11_meet_93 : zd 1 cX11_meet 93 94 (.ldiv) := ⟨by decide +kernel, rfl⟩
theorem eX11_meet_94 : zd 1 cX11_meet 94 95 (.lstore_n 1) := ⟨by decide +kernel, rfl⟩
theorem eX11_meet_95 : zd 1 cX11_meet 95 96 (.aload_n 0) := ⟨by decide +kernel, rfl⟩
theorem eX11_meet_96 : zd 3 cX11_meet 96 99 (.getfield 7) := ⟨by decide +kernel, rfl⟩
theorem eX11_meet_99 : zd 1 cX11_meet 99 100 (.iconst 0) := ⟨by decide +kernel, rfl⟩
theorem eX11_meet_100 : zd 1 cX11_meet 100 101 (.iaload) := ⟨by decide +kernel, rfl⟩
theorem eX11_meet_101 : zd 1 cX11_meet 101 102 (.i2l) := ⟨by decide +kernel, rfl⟩
theorem eX11_meet_102 : zd 1 cX11_meet 102 103 (.aload_n 0) := ⟨by decide +kernel, rfl⟩
theorem eX11_meet_103 : zd 2 cX11_meet 103 105 (.bipush (-100)) := ⟨by decide +kernel, rfl⟩
theorem eX11_meet_105 : zd 3 cX11_meet 105 108 (.invokevirtual 218) := ⟨by decide +kernel, rfl⟩
theorem eX11_meet_108 : zd 1 cX11_meet 108 109 (.lsub) := ⟨by decide +kernel, rfl⟩
theorem eX11_meet_109 : zd 2 cX11_meet 109 111 (.lstore 5) := ⟨by decide +kernel, rfl⟩
theorem eX11_meet_111 : zd 2 cX11_meet 111 113 (.lload 5) := ⟨by decide +kernel, rfl⟩
theorem eX11_meet_113 : zd 1 cX11_meet 113 114 (.lconst 0) := ⟨by decide +kernel, rfl⟩
theorem eX11_meet_114 : zd 1 cX11_meet 114 115 (.lcmp) := ⟨by decide +kernel, rfl⟩
theorem eX11_meet_115 : zdi cX11_meet 115 118 171 (.ifCond .le) := ⟨56, by decide +kernel, rfl, by decide⟩
theorem eX11_meet_118 : zd 1 cX11_meet 118 119 (.aload_n 0) := ⟨by decide +kernel, rfl⟩
theorem eX11_meet_119 : zd 3 cX11_meet 119 122 (.getfield 25) := ⟨by decide +kernel, rfl⟩
theorem eX11_meet_122 : zd 2 cX11_meet 122 124 (.bipush 10) := ⟨by decide +kernel, rfl⟩
theorem eX11_meet_124 : zd 1 cX11_meet 124 125 (.dup2) := ⟨by decide +kernel, rfl⟩
theorem eX11_meet_125 : zd 1 cX11_meet 125 126 (.laload) := ⟨by decide +kernel, rfl⟩
theorem eX11_meet_126 : zd 1 cX11_meet 126 127 (.lload_n 1) := ⟨by decide +kernel, rfl⟩
theorem eX11_meet_127 : zd 1 cX11_meet 127 128 (.lconst 0) := ⟨by decide +kernel, rfl⟩
theorem eX11_meet_128 : zd 1 cX11_meet 128 129 (.lcmp) := ⟨by decide +kernel, rfl⟩
theorem eX11_meet_129 : zdi cX11_meet 129 132 150 (.ifCond .ge) := ⟨21, by decide +kernel, rfl, by decide⟩
theorem eX11_meet_132 : zd 1 cX11_meet 132 133 (.lload_n 1) := ⟨by decide +kernel, rfl⟩
theorem eX11_meet_133 : zd 1 cX11_meet 133 134 (.lload_n 1) := ⟨by decide +kernel, rfl⟩
theorem eX11_meet_134 : zd 1 cX11_meet 134 135 (.lmul) := ⟨by decide +kernel, rfl⟩
theorem eX11_meet_135 : zd 1 cX11_meet 135 136 (.aload_n 0) := ⟨by decide +kernel, rfl⟩
theorem eX11_meet_136 : zd 3 cX11_meet 136 139 (.getfield 7) := ⟨by decide +kernel, rfl⟩
theorem eX11_meet_139 : zd 1 cX11_meet 139 140 (.iconst 3) := ⟨by decide +kernel, rfl⟩
theorem eX11_meet_140 : zd 1 cX11_meet 140 141 (.iaload) := ⟨by decide +kernel, rfl⟩
theorem eX11_meet_141 : zd 1 cX11_meet 141 142 (.i2l) := ⟨by decide +kernel, rfl⟩
theorem eX11_meet_142 : zd 1 cX11_meet 142 143 (.lmul) := ⟨by decide +kernel, rfl⟩
theorem eX11_meet_143 : zd 3 cX11_meet 143 146 (.ldc2_w 234) := ⟨by decide +kernel, rfl⟩
theorem eX11_meet_146 : zd 1 cX11_meet 146 147 (.ldiv) := ⟨by decide +kernel, rfl⟩
theorem eX11_meet_147 : zdi cX11_meet 147 150 151 (.goto) := ⟨4, by decide +kernel, rfl, by decide⟩
theorem eX11_meet_150 : zd 1 cX11_meet 150 151 (.lconst 0) := ⟨by decide +kernel, rfl⟩
theorem eX11_meet_151 : zd 1 cX11_meet 151 152 (.ladd) := ⟨by decide +kernel, rfl⟩
theorem eX11_meet_152 : zd 1 cX11_meet 152 153 (.lastore) := ⟨by decide +kernel, rfl⟩
theorem eX11_meet_153 : zd 1 cX11_meet 153 154 (.aload_n 0) := ⟨by decide +kernel, rfl⟩
theorem eX11_meet_154 : zd 3 cX11_meet 154 157 (.getfield 25) := ⟨by decide +kernel, rfl⟩
theorem eX11_meet_157 : zd 1 cX11_meet 157 158 (.iconst 3) := ⟨by decide +kernel, rfl⟩
theorem eX11_meet_158 : zd 1 cX11_meet 158 159 (.lconst 0) := ⟨by decide +kernel, rfl⟩
theorem eX11_meet_159 : zd 1 cX11_meet 159 160 (.lastore) := ⟨by decide +kernel, rfl⟩
theorem eX11_meet_160 : zd 1 cX11_meet 160 161 (.aload_n 0) := ⟨by decide +kernel, rfl⟩
theorem eX11_meet_161 : zd 3 cX11_meet 161 164 (.getfield 25) := ⟨by decide +kernel, rfl⟩
theorem eX11_meet_164 : zd 1 cX11_meet 164 165 (.iconst 0) := ⟨by decide +kernel, rfl⟩
theorem eX11_meet_165 : zd 1 cX11_meet 165 166 (.dup2) := ⟨by decide +kernel, rfl⟩
theorem eX11_meet_166 : zd 1 cX11_meet 166 167 (.laload) := ⟨by decide +kernel, rfl⟩
theorem eX11_meet_167 : zd 2 cX11_meet 167 169 (.lload 5) := ⟨by decide +kernel, rfl⟩
theorem eX11_meet_169 : zd 1 cX11_meet 169 170 (.ladd) := ⟨by decide +kernel, rfl⟩
theorem eX11_meet_170 : zd 1 cX11_meet 170 171 (.lastore) := ⟨by decide +kernel, rfl⟩
theorem eX11_meet_171 : zd 1 cX11_meet 171 172 (.return_) := ⟨by decide +kernel, rfl⟩
noncomputable def f_Mo_meet (v0 : tMo)  : (Nat → Int64) := (zlet (((gMo_ship v0) 3) / 100) (fun (z1 : Int64) => (zlet ((f_Mo_along v0 100) - ((gMo_told v0) 1).toInt64) (fun (z2 : Int64) => (zlet (if z2 ≤ 0 then (gMo_ship v0) else (zlet (if z1 ≤ 0 then 0 else (((z1 * z1) * ((gMo_told v0) 3).toInt64) / 10)) (fun (w6 : Int64) => (zlet (((gMo_ship v0) 10) + w6) (fun (z9 : Int64) => (zlet (((gMo_ship v0) 0) - z2) (fun (z10 : Int64) => (vp_updL (vp_updL (vp_updL (gMo_ship v0) 10 z9) 3 0) 0 z10)))))))) (fun (w3 : (Nat → Int64)) => (zlet ((w3 3) / 100) (fun (z11 : Int64) => (zlet (((gMo_told v0) 0).toInt64 - (f_Mo_along ((gMo_ints v0), (gMo_told v0), (gMo_postX v0), (gMo_postStrong v0), (gMo_atRow v0), (gMo_heights v0), w3, (gMo_lines v0), (gMo_text v0), (gMo_said v0), (gMo_readTold v0), (gMo_readX v0), (gMo_readStrong v0), (gMo_readRow v0), (gMo_parting v0), (gMo_wasShip v0), (gMo_wasLines v0), (gMo_worst v0), (gMo_logRow v0), (gMo_images v0), (gMo_isKept v0)) (-100))) (fun (z12 : Int64) => (if z12 ≤ 0 then w3 else (zlet (if 0 ≤ z11 then 0 else (((z11 * z11) * ((gMo_told v0) 3).toInt64) / 10)) (fun (w14 : Int64) => (zlet ((w3 10) + w14) (fun (z17 : Int64) => (zlet ((w3 0) + z12) (fun (z18 : Int64) => (vp_updL (vp_updL (vp_updL w3 10 z17) 3 0) 0 z18))))))))))))))))))
abbrev rm_Mo_meet : Room := { frames := 2, cells := 0, slots := 0, locals := 42 }
set_option maxHeartbeats 4000000 in
set_option maxRecDepth 100000 in
theorem c_Mo_meet (l : Launch) (g : zGl) (a0 : Nat → Nat) (o0 : Nat) (v0 : tMo)  (out : (Nat → Int64)) (hf : f_Mo_meet v0 = out) : zMv l yX11_meet cX11_meet 7 rm_Mo_meet g [.ref (a0 o0)] (W_Mo g a0 o0 (gMo_ints v0) (gMo_told v0) (gMo_postX v0) (gMo_postStrong v0) (gMo_atRow v0) (gMo_heights v0) (gMo_ship v0) (gMo_lines v0) (gMo_text v0) (gMo_said v0) (gMo_readTold v0) (gMo_readX v0) (gMo_readStrong v0) (gMo_readRow v0) (gMo_parting v0) (gMo_wasShip v0) (gMo_wasLines v0) (gMo_worst v0) (gMo_logRow v0) (gMo_images v0) (gMo_isKept v0))  (W_Mo g a0 o0 (gMo_ints v0) (gMo_told v0) (gMo_postX v0) (gMo_postStrong v0) (gMo_atRow v0) (gMo_heights v0) out (gMo_lines v0) (gMo_text v0) (gMo_said v0) (gMo_readTold v0) (gMo_readX v0) (gMo_readStrong v0) (gMo_readRow v0) (gMo_parting v0) (gMo_wasShip v0) (gMo_wasLines v0) (gMo_worst v0) (gMo_logRow v0) (gMo_images v0) (gMo_isKept v0)) := by
  refine zMv_of (lv := [(0, .ref (a0 o0))]) (by decide) (Nat.le_of_ble_eq_true rfl) rfl (fun x hl hg C hret => ?_)
  subst hl; subst hg
  rw [f_Mo_meet] at hf
  refine r_aload_n C eX11_meet_0 0 rfl rfl ?_
  refine r_get (v := .ref (a0 (o0 + 6))) C eX11_meet_1 FX11_25 0 rfl rfl ?_
  refine r_iconst C (v := 3) eX11_meet_4 (by decide) ?_
  refine r_laldN C eX11_meet_5 6 3 (by decide) rfl ((gMo_ship v0) 3) rfl ?_
  refine r_ldc2 C (v := 100) eX11_meet_6 q1315 ?_
  refine r_ldiv C eX11_meet_9 (by decide) ?_
  obtain ⟨z1, hz1, hf⟩ := zlet_of hf
  refine r_naml hz1 ?_
  refine r_lstore_n C [(1, .long z1), (0, .ref (a0 o0))] eX11_meet_10 rfl (by decide) rfl ?_
  refine r_aload_n C eX11_meet_11 1 rfl rfl ?_
  refine r_bipush C (v := 100) eX11_meet_12 (by decide) ?_
  refine r_V_l (ws' := W_Mo (z_g x) a0 o0 (gMo_ints v0) (gMo_told v0) (gMo_postX v0) (gMo_postStrong v0) (gMo_atRow v0) (gMo_heights v0) (gMo_ship v0) (gMo_lines v0) (gMo_text v0) (gMo_said v0) (gMo_readTold v0) (gMo_readX v0) (gMo_readStrong v0) (gMo_readRow v0) (gMo_parting v0) (gMo_wasShip v0) (gMo_wasLines v0) (gMo_worst v0) (gMo_logRow v0) (gMo_images v0) (gMo_isKept v0)) C (c_Mo_along (z_l x) (z_g x) a0 o0 v0 100 _ rfl) eX11_meet_14 MX11_218 ⟨0, 11, _, _, rfl, rfl, rfl⟩ [0, 1, 2, 3, 4, 5, 6, 7, 8, 9, 10, 11, 12, 13, 14, 15, 16, 17, 18, 19] rfl rfl rfl rfl [] rfl trivial 20 rfl rfl rfl rfl rfl rfl ?_
  refine r_aload_n C eX11_meet_17 1 rfl rfl ?_
  refine r_get (v := .ref (a0 (o0 + 1))) C eX11_meet_18 FX11_7 0 rfl rfl ?_
  refine r_iconst C (v := 1) eX11_meet_21 (by decide) ?_
  refine r_ialdN C eX11_meet_22 1 1 (by decide) rfl ((gMo_told v0) 1) rfl ?_
  refine r_i2l C eX11_meet_23 ?_
  refine r_lsub C eX11_meet_24 ?_
  obtain ⟨z2, hz2, hf⟩ := zlet_of hf
  refine r_naml hz2 ?_
  refine r_lstore_n C [(3, .long z2), (1, .long z1), (0, .ref (a0 o0))] eX11_meet_25 rfl (by decide) rfl ?_
  refine r_lload_n C eX11_meet_26 0 rfl rfl ?_
  refine r_lconst C (v := 0) eX11_meet_27 (by decide) ?_
  obtain ⟨w3, hw3, hf⟩ := zlet_of hf
  have J4 : vV x 7 0 0 (W_Mo (z_g x) a0 o0 (gMo_ints v0) (gMo_told v0) (gMo_postX v0) (gMo_postStrong v0) (gMo_atRow v0) (gMo_heights v0) w3 (gMo_lines v0) (gMo_text v0) (gMo_said v0) (gMo_readTold v0) (gMo_readX v0) (gMo_readStrong v0) (gMo_readRow v0) (gMo_parting v0) (gMo_wasShip v0) (gMo_wasLines v0) (gMo_worst v0) (gMo_logRow v0) (gMo_images v0) (gMo_isKept v0)) 84 [(0, .ref (a0 o0))] [] := by
    refine r_aload_n C eX11_meet_84 0 rfl rfl ?_
    refine r_get (v := .ref (a0 (o0 + 6))) C eX11_meet_85 FX11_25 0 rfl rfl ?_
    refine r_iconst C (v := 3) eX11_meet_88 (by decide) ?_
    refine r_laldN C eX11_meet_89 6 3 (by decide) rfl (w3 3) rfl ?_
    refine r_ldc2 C (v := 100) eX11_meet_90 q1315 ?_
    refine r_ldiv C eX11_meet_93 (by decide) ?_
    obtain ⟨z11, hz11, hf⟩ := zlet_of hf
    refine r_naml hz11 ?_
    refine r_lstore_n C [(1, .long z11), (0, .ref (a0 o0))] eX11_meet_94 rfl (by decide) rfl ?_
    refine r_aload_n C eX11_meet_95 1 rfl rfl ?_
    refine r_get (v := .ref (a0 (o0 + 1))) C eX11_meet_96 FX11_7 0 rfl rfl ?_
    refine r_iconst C (v := 0) eX11_meet_99 (by decide) ?_
    refine r_ialdN C eX11_meet_100 1 0 (by decide) rfl ((gMo_told v0) 0) rfl ?_
    refine r_i2l C eX11_meet_101 ?_
    refine r_aload_n C eX11_meet_102 1 rfl rfl ?_
    refine r_bipush C (v := (-100)) eX11_meet_103 (by decide) ?_
    refine r_V_l (ws' := W_Mo (z_g x) a0 o0 (gMo_ints v0) (gMo_told v0) (gMo_postX v0) (gMo_postStrong v0) (gMo_atRow v0) (gMo_heights v0) w3 (gMo_lines v0) (gMo_text v0) (gMo_said v0) (gMo_readTold v0) (gMo_readX v0) (gMo_readStrong v0) (gMo_readRow v0) (gMo_parting v0) (gMo_wasShip v0) (gMo_wasLines v0) (gMo_worst v0) (gMo_logRow v0) (gMo_images v0) (gMo_isKept v0)) C (c_Mo_along (z_l x) (z_g x) a0 o0 ((gMo_ints v0), (gMo_told v0), (gMo_postX v0), (gMo_postStrong v0), (gMo_atRow v0), (gMo_heights v0), w3, (gMo_lines v0), (gMo_text v0), (gMo_said v0), (gMo_readTold v0), (gMo_readX v0), (gMo_readStrong v0), (gMo_readRow v0), (gMo_parting v0), (gMo_wasShip v0), (gMo_wasLines v0), (gMo_worst v0), (gMo_logRow v0), (gMo_images v0), (gMo_isKept v0)) (-100) _ rfl) eX11_meet_105 MX11_218 ⟨0, 11, _, _, rfl, rfl, rfl⟩ [0, 1, 2, 3, 4, 5, 6, 7, 8, 9, 10, 11, 12, 13, 14, 15, 16, 17, 18, 19] rfl rfl rfl rfl [] rfl trivial 20 rfl rfl rfl rfl rfl rfl ?_
    refine r_lsub C eX11_meet_108 ?_
    obtain ⟨z12, hz12, hf⟩ := zlet_of hf
    refine r_naml hz12 ?_
    refine r_lstore C [(5, .long z12), (1, .long z11), (0, .ref (a0 o0))] eX11_meet_109 (by decide) rfl ?_
    refine r_lload C eX11_meet_111 0 rfl ?_
    refine r_lconst C (v := 0) eX11_meet_113 (by decide) ?_
    refine r_lcmp_le C eX11_meet_114 eX11_meet_115 (fun c13 => ?_) (fun c13 => ?_)
    · rw [if_pos c13] at hf
      subst hf
      exact hret _ _ _ eX11_meet_171
    · rw [if_neg c13] at hf
      refine r_aload_n C eX11_meet_118 2 rfl rfl ?_
      refine r_get (v := .ref (a0 (o0 + 6))) C eX11_meet_119 FX11_25 0 rfl rfl ?_
      refine r_bipush C (v := 10) eX11_meet_122 (by decide) ?_
      refine r_dup2 C eX11_meet_124 rfl rfl ?_
      refine r_laldN C eX11_meet_125 6 10 (by decide) rfl (w3 10) rfl ?_
      refine r_lload_n C eX11_meet_126 1 rfl rfl ?_
      refine r_lconst C (v := 0) eX11_meet_127 (by decide) ?_
      obtain ⟨w14, hw14, hf⟩ := zlet_of hf
      have J15 : vV x 7 0 0 (W_Mo (z_g x) a0 o0 (gMo_ints v0) (gMo_told v0) (gMo_postX v0) (gMo_postStrong v0) (gMo_atRow v0) (gMo_heights v0) w3 (gMo_lines v0) (gMo_text v0) (gMo_said v0) (gMo_readTold v0) (gMo_readX v0) (gMo_readStrong v0) (gMo_readRow v0) (gMo_parting v0) (gMo_wasShip v0) (gMo_wasLines v0) (gMo_worst v0) (gMo_logRow v0) (gMo_images v0) (gMo_isKept v0)) 151 [(0, .ref (a0 o0)), (5, .long z12)] [.long w14, .long (w3 10), .int 10, .ref (a0 (o0 + 6))] := by
        refine r_ladd C eX11_meet_151 ?_
        obtain ⟨z17, hz17, hf⟩ := zlet_of hf
        refine r_naml hz17 ?_
        refine r_lastN (ws' := W_Mo (z_g x) a0 o0 (gMo_ints v0) (gMo_told v0) (gMo_postX v0) (gMo_postStrong v0) (gMo_atRow v0) (gMo_heights v0) (vp_updL w3 10 z17) (gMo_lines v0) (gMo_text v0) (gMo_said v0) (gMo_readTold v0) (gMo_readX v0) (gMo_readStrong v0) (gMo_readRow v0) (gMo_parting v0) (gMo_wasShip v0) (gMo_wasLines v0) (gMo_worst v0) (gMo_logRow v0) (gMo_images v0) (gMo_isKept v0)) C eX11_meet_152 6 10 (by decide) rfl rfl ?_
        refine r_aload_n C eX11_meet_153 0 rfl rfl ?_
        refine r_get (v := .ref (a0 (o0 + 6))) C eX11_meet_154 FX11_25 0 rfl rfl ?_
        refine r_iconst C (v := 3) eX11_meet_157 (by decide) ?_
        refine r_lconst C (v := 0) eX11_meet_158 (by decide) ?_
        refine r_lastN (ws' := W_Mo (z_g x) a0 o0 (gMo_ints v0) (gMo_told v0) (gMo_postX v0) (gMo_postStrong v0) (gMo_atRow v0) (gMo_heights v0) (vp_updL (vp_updL w3 10 z17) 3 0) (gMo_lines v0) (gMo_text v0) (gMo_said v0) (gMo_readTold v0) (gMo_readX v0) (gMo_readStrong v0) (gMo_readRow v0) (gMo_parting v0) (gMo_wasShip v0) (gMo_wasLines v0) (gMo_worst v0) (gMo_logRow v0) (gMo_images v0) (gMo_isKept v0)) C eX11_meet_159 6 3 (by decide) rfl rfl ?_
        refine r_aload_n C eX11_meet_160 0 rfl rfl ?_
        refine r_get (v := .ref (a0 (o0 + 6))) C eX11_meet_161 FX11_25 0 rfl rfl ?_
        refine r_iconst C (v := 0) eX11_meet_164 (by decide) ?_
        refine r_dup2 C eX11_meet_165 rfl rfl ?_
        refine r_laldN C eX11_meet_166 6 0 (by decide) rfl (w3 0) rfl ?_
        refine r_lload C eX11_meet_167 1 rfl ?_
        refine r_ladd C eX11_meet_169 ?_
        obtain ⟨z18, hz18, hf⟩ := zlet_of hf
        refine r_naml hz18 ?_
        refine r_lastN (ws' := W_Mo (z_g x) a0 o0 (gMo_ints v0) (gMo_told v0) (gMo_postX v0) (gMo_postStrong v0) (gMo_atRow v0) (gMo_heights v0) (vp_updL (vp_updL (vp_updL w3 10 z17) 3 0) 0 z18) (gMo_lines v0) (gMo_text v0) (gMo_said v0) (gMo_readTold v0) (gMo_readX v0) (gMo_readStrong v0) (gMo_readRow v0) (gMo_parting v0) (gMo_wasShip v0) (gMo_wasLines v0) (gMo_worst v0) (gMo_logRow v0) (gMo_images v0) (gMo_isKept v0)) C eX11_meet_170 6 0 (by decide) rfl rfl ?_
        subst hf
        exact hret _ _ _ eX11_meet_171
      refine r_lcmp_ge C eX11_meet_128 eX11_meet_129 (fun c16 => ?_) (fun c16 => ?_)
      · rw [if_pos c16] at hw14
        refine r_lconst C (v := 0) eX11_meet_150 (by decide) ?_
        subst hw14
        refine r_sub (lv' := [(0, .ref (a0 o0)), (5, .long z12)]) [2, 0] rfl ?_
        exact J15 
      · rw [if_neg c16] at hw14
        refine r_lload_n C eX11_meet_132 1 rfl rfl ?_
        refine r_lload_n C eX11_meet_133 1 rfl rfl ?_
        refine r_lmul C eX11_meet_134 ?_
        refine r_aload_n C eX11_meet_135 2 rfl rfl ?_
        refine r_get (v := .ref (a0 (o0 + 1))) C eX11_meet_136 FX11_7 0 rfl rfl ?_
        refine r_iconst C (v := 3) eX11_meet_139 (by decide) ?_
        refine r_ialdN C eX11_meet_140 1 3 (by decide) rfl ((gMo_told v0) 3) rfl ?_
        refine r_i2l C eX11_meet_141 ?_
        refine r_lmul C eX11_meet_142 ?_
        refine r_ldc2 C (v := 10) eX11_meet_143 q1366 ?_
        refine r_ldiv C eX11_meet_146 (by decide) ?_
        refine r_goto C eX11_meet_147 ?_
        subst hw14
        refine r_sub (lv' := [(0, .ref (a0 o0)), (5, .long z12)]) [2, 0] rfl ?_
        exact J15 
  refine r_lcmp_le C eX11_meet_28 eX11_meet_29 (fun c5 => ?_) (fun c5 => ?_)
  · rw [if_pos c5] at hw3
    subst hw3
    refine r_sub (lv' := [(0, .ref (a0 o0))]) [2] rfl ?_
    exact J4 
  · rw [if_neg c5] at hw3
    refine r_aload_n C eX11_meet_32 2 rfl rfl ?_
    refine r_get (v := .ref (a0 (o0 + 6))) C eX11_meet_33 FX11_25 0 rfl rfl ?_
    refine r_bipush C (v := 10) eX11_meet_36 (by decide) ?_
    refine r_dup2 C eX11_meet_38 rfl rfl ?_
    refine r_laldN C eX11_meet_39 6 10 (by decide) rfl ((gMo_ship v0) 10) rfl ?_
    refine r_lload_n C eX11_meet_40 1 rfl rfl ?_
    refine r_lconst C (v := 0) eX11_meet_41 (by decide) ?_
    obtain ⟨w6, hw6, hw3⟩ := zlet_of hw3
    have J7 : vV x 7 0 0 (W_Mo (z_g x) a0 o0 (gMo_ints v0) (gMo_told v0) (gMo_postX v0) (gMo_postStrong v0) (gMo_atRow v0) (gMo_heights v0) (gMo_ship v0) (gMo_lines v0) (gMo_text v0) (gMo_said v0) (gMo_readTold v0) (gMo_readX v0) (gMo_readStrong v0) (gMo_readRow v0) (gMo_parting v0) (gMo_wasShip v0) (gMo_wasLines v0) (gMo_worst v0) (gMo_logRow v0) (gMo_images v0) (gMo_isKept v0)) 65 [(0, .ref (a0 o0)), (3, .long z2)] [.long w6, .long ((gMo_ship v0) 10), .int 10, .ref (a0 (o0 + 6))] := by
      refine r_ladd C eX11_meet_65 ?_
      obtain ⟨z9, hz9, hw3⟩ := zlet_of hw3
      refine r_naml hz9 ?_
      refine r_lastN (ws' := W_Mo (z_g x) a0 o0 (gMo_ints v0) (gMo_told v0) (gMo_postX v0) (gMo_postStrong v0) (gMo_atRow v0) (gMo_heights v0) (vp_updL (gMo_ship v0) 10 z9) (gMo_lines v0) (gMo_text v0) (gMo_said v0) (gMo_readTold v0) (gMo_readX v0) (gMo_readStrong v0) (gMo_readRow v0) (gMo_parting v0) (gMo_wasShip v0) (gMo_wasLines v0) (gMo_worst v0) (gMo_logRow v0) (gMo_images v0) (gMo_isKept v0)) C eX11_meet_66 6 10 (by decide) rfl rfl ?_
      refine r_aload_n C eX11_meet_67 0 rfl rfl ?_
      refine r_get (v := .ref (a0 (o0 + 6))) C eX11_meet_68 FX11_25 0 rfl rfl ?_
      refine r_iconst C (v := 3) eX11_meet_71 (by decide) ?_
      refine r_lconst C (v := 0) eX11_meet_72 (by decide) ?_
      refine r_lastN (ws' := W_Mo (z_g x) a0 o0 (gMo_ints v0) (gMo_told v0) (gMo_postX v0) (gMo_postStrong v0) (gMo_atRow v0) (gMo_heights v0) (vp_updL (vp_updL (gMo_ship v0) 10 z9) 3 0) (gMo_lines v0) (gMo_text v0) (gMo_said v0) (gMo_readTold v0) (gMo_readX v0) (gMo_readStrong v0) (gMo_readRow v0) (gMo_parting v0) (gMo_wasShip v0) (gMo_wasLines v0) (gMo_worst v0) (gMo_logRow v0) (gMo_images v0) (gMo_isKept v0)) C eX11_meet_73 6 3 (by decide) rfl rfl ?_
      refine r_aload_n C eX11_meet_74 0 rfl rfl ?_
      refine r_get (v := .ref (a0 (o0 + 6))) C eX11_meet_75 FX11_25 0 rfl rfl ?_
      refine r_iconst C (v := 0) eX11_meet_78 (by decide) ?_
      refine r_dup2 C eX11_meet_79 rfl rfl ?_
      refine r_laldN C eX11_meet_80 6 0 (by decide) rfl ((gMo_ship v0) 0) rfl ?_
      refine r_lload_n C eX11_meet_81 1 rfl rfl ?_
      refine r_lsub C eX11_meet_82 ?_
      obtain ⟨z10, hz10, hw3⟩ := zlet_of hw3
      refine r_naml hz10 ?_
      refine r_lastN (ws' := W_Mo (z_g x) a0 o0 (gMo_ints v0) (gMo_told v0) (gMo_postX v0) (gMo_postStrong v0) (gMo_atRow v0) (gMo_heights v0) (vp_updL (vp_updL (vp_updL (gMo_ship v0) 10 z9) 3 0) 0 z10) (gMo_lines v0) (gMo_text v0) (gMo_said v0) (gMo_readTold v0) (gMo_readX v0) (gMo_readStrong v0) (gMo_readRow v0) (gMo_parting v0) (gMo_wasShip v0) (gMo_wasLines v0) (gMo_worst v0) (gMo_logRow v0) (gMo_images v0) (gMo_isKept v0)) C eX11_meet_83 6 0 (by decide) rfl rfl ?_
      subst hw3
      refine r_sub (lv' := [(0, .ref (a0 o0))]) [0] rfl ?_
      exact J4 
    refine r_lcmp_le C eX11_meet_42 eX11_meet_43 (fun c8 => ?_) (fun c8 => ?_)
    · rw [if_pos c8] at hw6
      refine r_lconst C (v := 0) eX11_meet_64 (by decide) ?_
      subst hw6
      refine r_sub (lv' := [(0, .ref (a0 o0)), (3, .long z2)]) [2, 0] rfl ?_
      exact J7 
    · rw [if_neg c8] at hw6
      refine r_lload_n C eX11_meet_46 1 rfl rfl ?_
      refine r_lload_n C eX11_meet_47 1 rfl rfl ?_
      refine r_lmul C eX11_meet_48 ?_
      refine r_aload_n C eX11_meet_49 2 rfl rfl ?_
      refine r_get (v := .ref (a0 (o0 + 1))) C eX11_meet_50 FX11_7 0 rfl rfl ?_
      refine r_iconst C (v := 3) eX11_meet_53 (by decide) ?_
      refine r_ialdN C eX11_meet_54 1 3 (by decide) rfl ((gMo_told v0) 3) rfl ?_
      refine r_i2l C eX11_meet_55 ?_
      refine r_lmul C eX11_meet_56 ?_
      refine r_ldc2 C (v := 10) eX11_meet_57 q1366 ?_
      refine r_ldiv C eX11_meet_60 (by decide) ?_
      refine r_goto C eX11_meet_61 ?_
      subst hw6
      refine r_sub (lv' := [(0, .ref (a0 o0)), (3, .long z2)]) [2, 0] rfl ?_
      exact J7 
theorem eX11_second_0 : zd 1 cX11_second 0 1 (.aload_n 0) := ⟨by decide +kernel, rfl⟩
theorem eX11_second_1 : zd 3 cX11_second 1 4 (.invokevirtual 261) := ⟨by decide +kernel, rfl⟩
theorem eX11_second_4 : zd 1 cX11_second 4 5 (.istore_n 1) := ⟨by decide +kernel, rfl⟩
theorem eX11_second_5 : zd 1 cX11_second 5 6 (.aload_n 0) := ⟨by decide +kernel, rfl⟩
theorem eX11_second_6 : zd 3 cX11_second 6 9 (.invokevirtual 264) := ⟨by decide +kernel, rfl⟩
theorem eX11_second_9 : zd 1 cX11_second 9 10 (.aload_n 0) := ⟨by decide +kernel, rfl⟩
theorem eX11_second_10 : zd 3 cX11_second 10 13 (.getfield 25) := ⟨by decide +kernel, rfl⟩
theorem eX11_second_13 : zd 1 cX11_second 13 14 (.iconst 0) := ⟨by decide +kernel, rfl⟩
theorem eX11_second_14 : zd 1 cX11_second 14 15 (.dup2) := ⟨by decide +kernel, rfl⟩
theorem eX11_second_15 : zd 1 cX11_second 15 16 (.laload) := ⟨by decide +kernel, rfl⟩
theorem eX11_second_16 : zd 1 cX11_second 16 17 (.aload_n 0) := ⟨by decide +kernel, rfl⟩
theorem eX11_second_17 : zd 3 cX11_second 17 20 (.getfield 25) := ⟨by decide +kernel, rfl⟩
theorem eX11_second_20 : zd 1 cX11_second 20 21 (.iconst 3) := ⟨by decide +kernel, rfl⟩
theorem eX11_second_21 : zd 1 cX11_second 21 22 (.laload) := ⟨by decide +kernel, rfl⟩
theorem eX11_second_22 : zd 3 cX11_second 22 25 (.ldc2_w 203) := ⟨by decide +kernel, rfl⟩
theorem eX11_second_25 : zd 1 cX11_second 25 26 (.ldiv) := ⟨by decide +kernel, rfl⟩
theorem eX11_second_26 : zd 1 cX11_second 26 27 (.ladd) := ⟨by decide +kernel, rfl⟩
theorem eX11_second_27 : zd 1 cX11_second 27 28 (.lastore) := ⟨by decide +kernel, rfl⟩
theorem eX11_second_28 : zd 1 cX11_second 28 29 (.aload_n 0) := ⟨by decide +kernel, rfl⟩
theorem eX11_second_29 : zd 3 cX11_second 29 32 (.getfield 25) := ⟨by decide +kernel, rfl⟩
theorem eX11_second_32 : zd 1 cX11_second 32 33 (.iconst 1) := ⟨by decide +kernel, rfl⟩
theorem eX11_second_33 : zd 1 cX11_second 33 34 (.dup2) := ⟨by decide +kernel, rfl⟩
theorem eX11_second_34 : zd 1 cX11_second 34 35 (.laload) := ⟨by decide +kernel, rfl⟩
theorem eX11_second_35 : zd 1 cX11_second 35 36 (.aload_n 0) := ⟨by decide +kernel, rfl⟩
theorem eX11_second_36 : zd 3 cX11_second 36 39 (.getfield 25) := ⟨by decide +kernel, rfl⟩
theorem eX11_second_39 : zd 1 cX11_second 39 40 (.iconst 4) := ⟨by decide +kernel, rfl⟩
theorem eX11_second_40 : zd 1 cX11_second 40 41 (.laload) := ⟨by decide +kernel, rfl⟩
theorem eX11_second_41 : zd 3 cX11_second 41 44 (.ldc2_w 203) := ⟨by decide +kernel, rfl⟩
theorem eX11_second_44 : zd 1 cX11_second 44 45 (.ldiv) := ⟨by decide +kernel, rfl⟩
theorem eX11_second_45 : zd 1 cX11_second 45 46 (.aload_n 0) := ⟨by decide +kernel, rfl⟩
theorem eX11_second_46 : zd 3 cX11_second 46 49 (.getfield 25) := ⟨by decide +kernel, rfl⟩
theorem eX11_second_49 : zd 1 cX11_second 49 50 (.iconst 3) := ⟨by decide +kernel, rfl⟩
theorem eX11_second_50 : zd 1 cX11_second 50 51 (.laload) := ⟨by decide +kernel, rfl⟩
theorem eX11_second_51 : zd 3 cX11_second 51 54 (.ldc2_w 203) := ⟨by decide +kernel, rfl⟩
theorem eX11_second_54 : zd 1 cX11_second 54 55 (.ldiv) := ⟨by decide +kernel, rfl⟩
theorem eX11_second_55 : zd 1 cX11_second 55 56 (.aload_n 0) := ⟨by decide +kernel, rfl⟩
theorem eX11_second_56 : zd 3 cX11_second 56 59 (.getfield 25) := ⟨by decide +kernel, rfl⟩
theorem eX11_second_59 : zd 1 cX11_second 59 60 (.iconst 2) := ⟨by decide +kernel, rfl⟩
theorem eX11_second_60 : zd 1 cX11_second 60 61 (.laload) := ⟨by decide +kernel, rfl⟩
theorem eX11_second_61 : zd 1 cX11_second 61 62 (.lmul) := ⟨by decide +kernel, rfl⟩
theorem eX11_second_62 : zd 3 cX11_second 62 65 (.ldc2_w 209) := ⟨by decide +kernel, rfl⟩
theorem eX11_second_65 : zd 1 cX11_second 65 66 (.ldiv) := ⟨by decide +kernel, rfl⟩
theorem eX11_second_66 : zd 1 cX11_second 66 67 (.ladd) := ⟨by decide +kernel, rfl⟩
theorem eX11_second_67 : zd 1 cX11_second 67 68 (.lsub) := ⟨by decide +kernel, rfl⟩
theorem eX11_second_68 : zd 1 cX11_second 68 69 (.lastore) := ⟨by decide +kernel, rfl⟩
theorem eX11_second_69 : zd 1 cX11_second 69 70 (.aload_n 0) := ⟨by decide +kernel, rfl⟩
theorem eX11_second_70 : zd 3 cX11_second 70 73 (.getfield 25) := ⟨by decide +kernel, rfl⟩
theorem eX11_second_73 : zd 1 cX11_second 73 74 (.iconst 2) := ⟨by decide +kernel, rfl⟩
theorem eX11_second_74 : zd 1 cX11_second 74 75 (.aload_n 0) := ⟨by decide +kernel, rfl⟩
theorem eX11_second_75 : zd 3 cX11_second 75 78 (.getfield 25) := ⟨by decide +kernel, rfl⟩
theorem eX11_second_78 : zd 1 cX11_second 78 79 (.iconst 2) := ⟨by decide +kernel, rfl⟩
theorem eX11_second_79 : zd 1 cX11_second 79 80 (.laload) := ⟨by decide +kernel, rfl⟩
theorem eX11_second_80 : zd 1 cX11_second 80 81 (.aload_n 0) := ⟨by decide +kernel, rfl⟩
theorem eX11_second_81 : zd 3 cX11_second 81 84 (.getfield 25) := ⟨by decide +kernel, rfl⟩
theorem eX11_second_84 : zd 1 cX11_second 84 85 (.iconst 5) := ⟨by decide +kernel, rfl⟩
theorem eX11_second_85 : zd 1 cX11_second 85 86 (.laload) := ⟨by decide +kernel, rfl⟩
theorem eX11_second_86 : zd 1 cX11_second 86 87 (.ladd) := ⟨by decide +kernel, rfl⟩
theorem eX11_second_87 : zd 3 cX11_second 87 90 (.ldc2_w 267) := ⟨by decide +kernel, rfl⟩
theorem eX11_second_90 : zd 3 cX11_second 90 93 (.invokestatic 251) := ⟨by decide +kernel, rfl⟩
theorem eX11_second_93 : zd 1 cX11_second 93 94 (.lastore) := ⟨by decide +kernel, rfl⟩
theorem eX11_second_94 : zd 1 cX11_second 94 95 (.aload_n 0) := ⟨by decide +kernel, rfl⟩
theorem eX11_second_95 : zd 3 cX11_second 95 98 (.getfield 25) := ⟨by decide +kernel, rfl⟩
theorem eX11_second_98 : zd 2 cX11_second 98 100 (.bipush 9) := ⟨by decide +kernel, rfl⟩
theorem eX11_second_100 : zd 1 cX11_second 100 101 (.dup2) := ⟨by decide +kernel, rfl⟩
theorem eX11_second_101 : zd 1 cX11_second 101 102 (.laload) := ⟨by decide +kernel, rfl⟩
theorem eX11_second_102 : zd 1 cX11_second 102 103 (.lconst 1) := ⟨by decide +kernel, rfl⟩
theorem eX11_second_103 : zd 1 cX11_second 103 104 (.ladd) := ⟨by decide +kernel, rfl⟩
theorem eX11_second_104 : zd 1 cX11_second 104 105 (.lastore) := ⟨by decide +kernel, rfl⟩
theorem eX11_second_105 : zd 1 cX11_second 105 106 (.aload_n 0) := ⟨by decide +kernel, rfl⟩
theorem eX11_second_106 : zd 2 cX11_second 106 108 (.bipush 100) := ⟨by decide +kernel, rfl⟩
theorem eX11_second_108 : zd 3 cX11_second 108 111 (.invokevirtual 269) := ⟨by decide +kernel, rfl⟩
theorem eX11_second_111 : zd 1 cX11_second 111 112 (.aload_n 0) := ⟨by decide +kernel, rfl⟩
theorem eX11_second_112 : zd 2 cX11_second 112 114 (.bipush (-100)) := ⟨by decide +kernel, rfl⟩
theorem eX11_second_114 : zd 3 cX11_second 114 117 (.invokevirtual 269) := ⟨by decide +kernel, rfl⟩
theorem eX11_second_117 : zd 1 cX11_second 117 118 (.aload_n 0) := ⟨by decide +kernel, rfl⟩
theorem eX11_second_118 : zd 3 cX11_second 118 121 (.invokevirtual 273) := ⟨by decide +kernel, rfl⟩
theorem eX11_second_121 : zd 1 cX11_second 121 122 (.aload_n 0) := ⟨by decide +kernel, rfl⟩
theorem eX11_second_122 : zd 3 cX11_second 122 125 (.getfield 25) := ⟨by decide +kernel, rfl⟩
theorem eX11_second_125 : zd 1 cX11_second 125 126 (.iconst 1) := ⟨by decide +kernel, rfl⟩
theorem eX11_second_126 : zd 1 cX11_second 126 127 (.laload) := ⟨by decide +kernel, rfl⟩
theorem eX11_second_127 : zd 3 cX11_second 127 130 (.ldc2_w 276) := ⟨by decide +kernel, rfl⟩
theorem eX11_second_130 : zd 1 cX11_second 130 131 (.lcmp) := ⟨by decide +kernel, rfl⟩
theorem eX11_second_131 : zdi cX11_second 131 134 170 (.ifCond .le) := ⟨39, by decide +kernel, rfl, by decide⟩
theorem eX11_second_134 : zd 1 cX11_second 134 135 (.aload_n 0) := ⟨by decide +kernel, rfl⟩
theorem eX11_second_135 : zd 3 cX11_second 135 138 (.getfield 25) := ⟨by decide +kernel, rfl⟩
theorem eX11_second_138 : zd 1 cX11_second 138 139 (.iconst 1) := ⟨by decide +kernel, rfl⟩
theorem eX11_second_139 : zd 3 cX11_second 139 142 (.ldc2_w 276) := ⟨by decide +kernel, rfl⟩
theorem eX11_second_142 : zd 1 cX11_second 142 143 (.lastore) := ⟨by decide +kernel, rfl⟩
theorem eX11_second_143 : zd 1 cX11_second 143 144 (.aload_n 0) := ⟨by decide +kernel, rfl⟩
theorem eX11_second_144 : zd 3 cX11_second 144 147 (.getfield 25) := ⟨by decide +kernel, rfl⟩
theorem eX11_second_147 : zd 1 cX11_second 147 148 (.iconst 4) := ⟨by decide +kernel, rfl⟩
theorem eX11_second_148 : zd 1 cX11_second 148 149 (.aload_n 0) := ⟨by decide +kernel, rfl⟩
theorem eX11_second_149 : zd 3 cX11_second 149 152 (.getfield 25) := ⟨by decide +kernel, rfl⟩
theorem eX11_second_152 : zd 1 cX11_second 152 153 (.iconst 4) := ⟨by decide +kernel, rfl⟩
theorem eX11_second_153 : zd 1 cX11_second 153 154 (.laload) := ⟨by decide +kernel, rfl⟩
theorem eX11_second_154 : zd 1 cX11_second 154 155 (.lconst 0) := ⟨by decide +kernel, rfl⟩
theorem eX11_second_155 : zd 1 cX11_second 155 156 (.lcmp) := ⟨by decide +kernel, rfl⟩
theorem eX11_second_156 : zdi cX11_second 156 159 163 (.ifCond .ge) := ⟨7, by decide +kernel, rfl, by decide⟩
theorem eX11_second_159 : zd 1 cX11_second 159 160 (.lconst 0) := ⟨by decide +kernel, rfl⟩
theorem eX11_second_160 : zdi cX11_second 160 163 169 (.goto) := ⟨9, by decide +kernel, rfl, by decide⟩
theorem eX11_second_163 : zd 1 cX11_second 163 164 (.aload_n 0) := ⟨by decide +kernel, rfl⟩
theorem eX11_second_164 : zd 3 cX11_second 164 167 (.getfield 25) := ⟨by decide +kernel, rfl⟩
theorem eX11_second_167 : zd 1 cX11_second 167 168 (.iconst 4) := ⟨by decide +kernel, rfl⟩
theorem eX11_second_168 : zd 1 cX11_second 168 169 (.laload) := ⟨by decide +kernel, rfl⟩
theorem eX11_second_169 : zd 1 cX11_second 169 170 (.lastore) := ⟨by decide +kernel, rfl⟩
theorem eX11_second_170 : zd 1 cX11_second 170 171 (.iload_n 1) := ⟨by decide +kernel, rfl⟩
theorem eX11_second_171 : zd 1 cX11_second 171 172 (.ireturn) := ⟨by decide +kernel, rfl⟩
theorem MX11_261 : zlV RX11 261 yX11_partLines cX11_partLines 3 ((Option.some FieldType.int)) 0 := ⟨q1344, q1346, qs46, q12, q1347, by decide, by decide, by decide +kernel⟩
theorem MX11_264 : zlV RX11 264 yX11_push cX11_push 19 (none) 0 := ⟨q1367, q1369, qs50, q12, q1370, by decide, by decide, by decide +kernel⟩
theorem MX11_269 : zlV RX11 269 yX11_knock cX11_knock 6 (none) 1 := ⟨q1377, q1379, qs51, q12, q1380, by decide, by decide, by decide +kernel⟩
theorem MX11_273 : zlV RX11 273 yX11_meet cX11_meet 7 (none) 0 := ⟨q1383, q1385, qs52, q12, q1386, by decide, by decide, by decide +kernel⟩
noncomputable def f_Mo_second (v0 : tMo)  : Option (Int32 × (Nat → Int64) × (Nat → Int32) × (Nat → Int32)) := (Option.bind (f_Mo_partLines v0) (fun (r1 : Int32 × (Nat → Int32) × (Nat → Int32)) => (Option.bind (f_Mo_push ((gMo_ints v0), (gMo_told v0), (gMo_postX v0), (gMo_postStrong v0), (gMo_atRow v0), (gMo_heights v0), (gMo_ship v0), (r1.2.1), (gMo_text v0), (gMo_said v0), (gMo_readTold v0), (gMo_readX v0), (gMo_readStrong v0), (gMo_readRow v0), (r1.2.2), (gMo_wasShip v0), (gMo_wasLines v0), (gMo_worst v0), (gMo_logRow v0), (gMo_images v0), (gMo_isKept v0))) (fun (r2 : (Nat → Int64)) => (zlet ((r2 0) + ((r2 3) / 100)) (fun (z3 : Int64) => (zlet ((r2 1) - (((r2 4) / 100) + ((((r2 3) / 100) * (r2 2)) / 57296))) (fun (z4 : Int64) => (zlet (f_Mo_held ((r2 2) + (r2 5)) 45000) (fun (z5 : Int64) => (zlet ((r2 9) + 1) (fun (z6 : Int64) => (zlet (f_Mo_knock ((gMo_ints v0), (gMo_told v0), (gMo_postX v0), (gMo_postStrong v0), (gMo_atRow v0), (gMo_heights v0), (vp_updL (vp_updL (vp_updL (vp_updL r2 0 z3) 1 z4) 2 z5) 9 z6), (r1.2.1), (gMo_text v0), (gMo_said v0), (gMo_readTold v0), (gMo_readX v0), (gMo_readStrong v0), (gMo_readRow v0), (r1.2.2), (gMo_wasShip v0), (gMo_wasLines v0), (gMo_worst v0), (gMo_logRow v0), (gMo_images v0), (gMo_isKept v0)) 100) (fun (r7 : (Nat → Int64)) => (zlet (f_Mo_knock ((gMo_ints v0), (gMo_told v0), (gMo_postX v0), (gMo_postStrong v0), (gMo_atRow v0), (gMo_heights v0), r7, (r1.2.1), (gMo_text v0), (gMo_said v0), (gMo_readTold v0), (gMo_readX v0), (gMo_readStrong v0), (gMo_readRow v0), (r1.2.2), (gMo_wasShip v0), (gMo_wasLines v0), (gMo_worst v0), (gMo_logRow v0), (gMo_images v0), (gMo_isKept v0)) (-100)) (fun (r8 : (Nat → Int64)) => (zlet (f_Mo_meet ((gMo_ints v0), (gMo_told v0), (gMo_postX v0), (gMo_postStrong v0), (gMo_atRow v0), (gMo_heights v0), r8, (r1.2.1), (gMo_text v0), (gMo_said v0), (gMo_readTold v0), (gMo_readX v0), (gMo_readStrong v0), (gMo_readRow v0), (r1.2.2), (gMo_wasShip v0), (gMo_wasLines v0), (gMo_worst v0), (gMo_logRow v0), (gMo_images v0), (gMo_isKept v0))) (fun (r9 : (Nat → Int64)) => (if (r9 1) ≤ 30000 then (some ((r1.1), r9, (r1.2.1), (r1.2.2))) else (zlet (if 0 ≤ (r9 4) then (r9 4) else 0) (fun (w11 : Int64) => (some ((r1.1), (vp_updL (vp_updL r9 1 30000) 4 w11), (r1.2.1), (r1.2.2))))))))))))))))))))))))
abbrev rm_Mo_second : Room := { frames := 6, cells := 0, slots := 0, locals := 152 }
set_option maxHeartbeats 4000000 in
set_option maxRecDepth 100000 in
theorem c_Mo_second (l : Launch) (g : zGl) (a0 : Nat → Nat) (o0 : Nat) (v0 : tMo)  (out : Int32 × (Nat → Int64) × (Nat → Int32) × (Nat → Int32)) (hf : f_Mo_second v0 = some out) : zMi l yX11_second cX11_second 2 rm_Mo_second g [.ref (a0 o0)] (W_Mo g a0 o0 (gMo_ints v0) (gMo_told v0) (gMo_postX v0) (gMo_postStrong v0) (gMo_atRow v0) (gMo_heights v0) (gMo_ship v0) (gMo_lines v0) (gMo_text v0) (gMo_said v0) (gMo_readTold v0) (gMo_readX v0) (gMo_readStrong v0) (gMo_readRow v0) (gMo_parting v0) (gMo_wasShip v0) (gMo_wasLines v0) (gMo_worst v0) (gMo_logRow v0) (gMo_images v0) (gMo_isKept v0)) (out.1) (W_Mo g a0 o0 (gMo_ints v0) (gMo_told v0) (gMo_postX v0) (gMo_postStrong v0) (gMo_atRow v0) (gMo_heights v0) (out.2.1) (out.2.2.1) (gMo_text v0) (gMo_said v0) (gMo_readTold v0) (gMo_readX v0) (gMo_readStrong v0) (gMo_readRow v0) (out.2.2.2) (gMo_wasShip v0) (gMo_wasLines v0) (gMo_worst v0) (gMo_logRow v0) (gMo_images v0) (gMo_isKept v0)) := by
  refine zMi_of (lv := [(0, .ref (a0 o0))]) (by decide) (Nat.le_of_ble_eq_true rfl) rfl (fun x hl hg C hret => ?_)
  subst hl; subst hg
  rw [f_Mo_second] at hf
  refine r_aload_n C eX11_second_0 0 rfl rfl ?_
  obtain ⟨r1, hr1, hf⟩ := zbind hf
  refine r_V_i (ws' := W_Mo (z_g x) a0 o0 (gMo_ints v0) (gMo_told v0) (gMo_postX v0) (gMo_postStrong v0) (gMo_atRow v0) (gMo_heights v0) (gMo_ship v0) (r1.2.1) (gMo_text v0) (gMo_said v0) (gMo_readTold v0) (gMo_readX v0) (gMo_readStrong v0) (gMo_readRow v0) (r1.2.2) (gMo_wasShip v0) (gMo_wasLines v0) (gMo_worst v0) (gMo_logRow v0) (gMo_images v0) (gMo_isKept v0)) C (c_Mo_partLines (z_l x) (z_g x) a0 o0 v0  r1 hr1) eX11_second_1 MX11_261 ⟨0, 11, _, _, rfl, rfl, rfl⟩ [0, 1, 2, 3, 4, 5, 6, 7, 8, 9, 10, 11, 12, 13, 14, 15, 16, 17, 18, 19] rfl rfl rfl rfl [] rfl trivial 20 rfl rfl rfl rfl rfl rfl ?_
  refine r_istore_n C [(1, .int (r1.1)), (0, .ref (a0 o0))] eX11_second_4 rfl (by decide) rfl ?_
  refine r_aload_n C eX11_second_5 1 rfl rfl ?_
  obtain ⟨r2, hr2, hf⟩ := zbind hf
  refine r_V_v (ws' := W_Mo (z_g x) a0 o0 (gMo_ints v0) (gMo_told v0) (gMo_postX v0) (gMo_postStrong v0) (gMo_atRow v0) (gMo_heights v0) r2 (r1.2.1) (gMo_text v0) (gMo_said v0) (gMo_readTold v0) (gMo_readX v0) (gMo_readStrong v0) (gMo_readRow v0) (r1.2.2) (gMo_wasShip v0) (gMo_wasLines v0) (gMo_worst v0) (gMo_logRow v0) (gMo_images v0) (gMo_isKept v0)) C (c_Mo_push (z_l x) (z_g x) a0 o0 ((gMo_ints v0), (gMo_told v0), (gMo_postX v0), (gMo_postStrong v0), (gMo_atRow v0), (gMo_heights v0), (gMo_ship v0), (r1.2.1), (gMo_text v0), (gMo_said v0), (gMo_readTold v0), (gMo_readX v0), (gMo_readStrong v0), (gMo_readRow v0), (r1.2.2), (gMo_wasShip v0), (gMo_wasLines v0), (gMo_worst v0), (gMo_logRow v0), (gMo_images v0), (gMo_isKept v0))  r2 hr2) eX11_second_6 MX11_264 ⟨0, 11, _, _, rfl, rfl, rfl⟩ [0, 1, 2, 3, 4, 5, 6, 7, 8, 9, 10, 11, 12, 13, 14, 15, 16, 17, 18, 19] rfl rfl rfl rfl [] rfl trivial 20 rfl rfl rfl rfl rfl rfl ?_
  refine r_aload_n C eX11_second_9 1 rfl rfl ?_
  refine r_get (v := .ref (a0 (o0 + 6))) C eX11_second_10 FX11_25 0 rfl rfl ?_
  refine r_iconst C (v := 0) eX11_second_13 (by decide) ?_
  refine r_dup2 C eX11_second_14 rfl rfl ?_
  refine r_laldN C eX11_second_15 6 0 (by decide) rfl (r2 0) rfl ?_
  refine r_aload_n C eX11_second_16 1 rfl rfl ?_
  refine r_get (v := .ref (a0 (o0 + 6))) C eX11_second_17 FX11_25 0 rfl rfl ?_
  refine r_iconst C (v := 3) eX11_second_20 (by decide) ?_
  refine r_laldN C eX11_second_21 6 3 (by decide) rfl (r2 3) rfl ?_
  refine r_ldc2 C (v := 100) eX11_second_22 q1315 ?_
  refine r_ldiv C eX11_second_25 (by decide) ?_
  refine r_ladd C eX11_second_26 ?_
  obtain ⟨z3, hz3, hf⟩ := zlet_of hf
  refine r_naml hz3 ?_
  refine r_lastN (ws' := W_Mo (z_g x) a0 o0 (gMo_ints v0) (gMo_told v0) (gMo_postX v0) (gMo_postStrong v0) (gMo_atRow v0) (gMo_heights v0) (vp_updL r2 0 z3) (r1.2.1) (gMo_text v0) (gMo_said v0) (gMo_readTold v0) (gMo_readX v0) (gMo_readStrong v0) (gMo_readRow v0) (r1.2.2) (gMo_wasShip v0) (gMo_wasLines v0) (gMo_worst v0) (gMo_logRow v0) (gMo_images v0) (gMo_isKept v0)) C eX11_second_27 6 0 (by decide) rfl rfl ?_
  refine r_aload_n C eX11_second_28 1 rfl rfl ?_
  refine r_get (v := .ref (a0 (o0 + 6))) C eX11_second_29 FX11_25 0 rfl rfl ?_
  refine r_iconst C (v := 1) eX11_second_32 (by decide) ?_
  refine r_dup2 C eX11_second_33 rfl rfl ?_
  refine r_laldN C eX11_second_34 6 1 (by decide) rfl (r2 1) rfl ?_
  refine r_aload_n C eX11_second_35 1 rfl rfl ?_
  refine r_get (v := .ref (a0 (o0 + 6))) C eX11_second_36 FX11_25 0 rfl rfl ?_
  refine r_iconst C (v := 4) eX11_second_39 (by decide) ?_
  refine r_laldN C eX11_second_40 6 4 (by decide) rfl (r2 4) rfl ?_
  refine r_ldc2 C (v := 100) eX11_second_41 q1315 ?_
  refine r_ldiv C eX11_second_44 (by decide) ?_
  refine r_aload_n C eX11_second_45 1 rfl rfl ?_
  refine r_get (v := .ref (a0 (o0 + 6))) C eX11_second_46 FX11_25 0 rfl rfl ?_
  refine r_iconst C (v := 3) eX11_second_49 (by decide) ?_
  refine r_laldN C eX11_second_50 6 3 (by decide) rfl (r2 3) rfl ?_
  refine r_ldc2 C (v := 100) eX11_second_51 q1315 ?_
  refine r_ldiv C eX11_second_54 (by decide) ?_
  refine r_aload_n C eX11_second_55 1 rfl rfl ?_
  refine r_get (v := .ref (a0 (o0 + 6))) C eX11_second_56 FX11_25 0 rfl rfl ?_
  refine r_iconst C (v := 2) eX11_second_59 (by decide) ?_
  refine r_laldN C eX11_second_60 6 2 (by decide) rfl (r2 2) rfl ?_
  refine r_lmul C eX11_second_61 ?_
  refine r_ldc2 C (v := 57296) eX11_second_62 q1316 ?_
  refine r_ldiv C eX11_second_65 (by decide) ?_
  refine r_ladd C eX11_second_66 ?_
  refine r_lsub C eX11_second_67 ?_
  obtain ⟨z4, hz4, hf⟩ := zlet_of hf
  refine r_naml hz4 ?_
  refine r_lastN (ws' := W_Mo (z_g x) a0 o0 (gMo_ints v0) (gMo_told v0) (gMo_postX v0) (gMo_postStrong v0) (gMo_atRow v0) (gMo_heights v0) (vp_updL (vp_updL r2 0 z3) 1 z4) (r1.2.1) (gMo_text v0) (gMo_said v0) (gMo_readTold v0) (gMo_readX v0) (gMo_readStrong v0) (gMo_readRow v0) (r1.2.2) (gMo_wasShip v0) (gMo_wasLines v0) (gMo_worst v0) (gMo_logRow v0) (gMo_images v0) (gMo_isKept v0)) C eX11_second_68 6 1 (by decide) rfl rfl ?_
  refine r_aload_n C eX11_second_69 1 rfl rfl ?_
  refine r_get (v := .ref (a0 (o0 + 6))) C eX11_second_70 FX11_25 0 rfl rfl ?_
  refine r_iconst C (v := 2) eX11_second_73 (by decide) ?_
  refine r_aload_n C eX11_second_74 1 rfl rfl ?_
  refine r_get (v := .ref (a0 (o0 + 6))) C eX11_second_75 FX11_25 0 rfl rfl ?_
  refine r_iconst C (v := 2) eX11_second_78 (by decide) ?_
  refine r_laldN C eX11_second_79 6 2 (by decide) rfl (r2 2) rfl ?_
  refine r_aload_n C eX11_second_80 1 rfl rfl ?_
  refine r_get (v := .ref (a0 (o0 + 6))) C eX11_second_81 FX11_25 0 rfl rfl ?_
  refine r_iconst C (v := 5) eX11_second_84 (by decide) ?_
  refine r_laldN C eX11_second_85 6 5 (by decide) rfl (r2 5) rfl ?_
  refine r_ladd C eX11_second_86 ?_
  refine r_ldc2 C (v := 45000) eX11_second_87 q1376 ?_
  refine r_S_l (ws' := W_Mo (z_g x) a0 o0 (gMo_ints v0) (gMo_told v0) (gMo_postX v0) (gMo_postStrong v0) (gMo_atRow v0) (gMo_heights v0) (vp_updL (vp_updL r2 0 z3) 1 z4) (r1.2.1) (gMo_text v0) (gMo_said v0) (gMo_readTold v0) (gMo_readX v0) (gMo_readStrong v0) (gMo_readRow v0) (r1.2.2) (gMo_wasShip v0) (gMo_wasLines v0) (gMo_worst v0) (gMo_logRow v0) (gMo_images v0) (gMo_isKept v0)) C (c_Mo_held (z_l x) (z_g x)  ((r2 2) + (r2 5)) 45000 _ rfl) eX11_second_90 MX11_251 [] rfl rfl rfl rfl [0, 1, 2, 3, 4, 5, 6, 7, 8, 9, 10, 11, 12, 13, 14, 15, 16, 17, 18, 19] rfl ⟨rfl, rfl, rfl, rfl, rfl, rfl, rfl, rfl, rfl, rfl, rfl, rfl, rfl, rfl, rfl, rfl, rfl, rfl, rfl, rfl, trivial⟩ 20 rfl rfl rfl rfl rfl rfl ?_
  obtain ⟨z5, hz5, hf⟩ := zlet_of hf
  refine r_naml hz5 ?_
  refine r_lastN (ws' := W_Mo (z_g x) a0 o0 (gMo_ints v0) (gMo_told v0) (gMo_postX v0) (gMo_postStrong v0) (gMo_atRow v0) (gMo_heights v0) (vp_updL (vp_updL (vp_updL r2 0 z3) 1 z4) 2 z5) (r1.2.1) (gMo_text v0) (gMo_said v0) (gMo_readTold v0) (gMo_readX v0) (gMo_readStrong v0) (gMo_readRow v0) (r1.2.2) (gMo_wasShip v0) (gMo_wasLines v0) (gMo_worst v0) (gMo_logRow v0) (gMo_images v0) (gMo_isKept v0)) C eX11_second_93 6 2 (by decide) rfl rfl ?_
  refine r_aload_n C eX11_second_94 1 rfl rfl ?_
  refine r_get (v := .ref (a0 (o0 + 6))) C eX11_second_95 FX11_25 0 rfl rfl ?_
  refine r_bipush C (v := 9) eX11_second_98 (by decide) ?_
  refine r_dup2 C eX11_second_100 rfl rfl ?_
  refine r_laldN C eX11_second_101 6 9 (by decide) rfl (r2 9) rfl ?_
  refine r_lconst C (v := 1) eX11_second_102 (by decide) ?_
  refine r_ladd C eX11_second_103 ?_
  obtain ⟨z6, hz6, hf⟩ := zlet_of hf
  refine r_naml hz6 ?_
  refine r_lastN (ws' := W_Mo (z_g x) a0 o0 (gMo_ints v0) (gMo_told v0) (gMo_postX v0) (gMo_postStrong v0) (gMo_atRow v0) (gMo_heights v0) (vp_updL (vp_updL (vp_updL (vp_updL r2 0 z3) 1 z4) 2 z5) 9 z6) (r1.2.1) (gMo_text v0) (gMo_said v0) (gMo_readTold v0) (gMo_readX v0) (gMo_readStrong v0) (gMo_readRow v0) (r1.2.2) (gMo_wasShip v0) (gMo_wasLines v0) (gMo_worst v0) (gMo_logRow v0) (gMo_images v0) (gMo_isKept v0)) C eX11_second_104 6 9 (by decide) rfl rfl ?_
  refine r_aload_n C eX11_second_105 1 rfl rfl ?_
  refine r_bipush C (v := 100) eX11_second_106 (by decide) ?_
  obtain ⟨r7, hr7, hf⟩ := zlet_of hf
  refine r_V_v (ws' := W_Mo (z_g x) a0 o0 (gMo_ints v0) (gMo_told v0) (gMo_postX v0) (gMo_postStrong v0) (gMo_atRow v0) (gMo_heights v0) r7 (r1.2.1) (gMo_text v0) (gMo_said v0) (gMo_readTold v0) (gMo_readX v0) (gMo_readStrong v0) (gMo_readRow v0) (r1.2.2) (gMo_wasShip v0) (gMo_wasLines v0) (gMo_worst v0) (gMo_logRow v0) (gMo_images v0) (gMo_isKept v0)) C (c_Mo_knock (z_l x) (z_g x) a0 o0 ((gMo_ints v0), (gMo_told v0), (gMo_postX v0), (gMo_postStrong v0), (gMo_atRow v0), (gMo_heights v0), (vp_updL (vp_updL (vp_updL (vp_updL r2 0 z3) 1 z4) 2 z5) 9 z6), (r1.2.1), (gMo_text v0), (gMo_said v0), (gMo_readTold v0), (gMo_readX v0), (gMo_readStrong v0), (gMo_readRow v0), (r1.2.2), (gMo_wasShip v0), (gMo_wasLines v0), (gMo_worst v0), (gMo_logRow v0), (gMo_images v0), (gMo_isKept v0)) 100 r7 hr7) eX11_second_108 MX11_269 ⟨0, 11, _, _, rfl, rfl, rfl⟩ [0, 1, 2, 3, 4, 5, 6, 7, 8, 9, 10, 11, 12, 13, 14, 15, 16, 17, 18, 19] rfl rfl rfl rfl [] rfl trivial 20 rfl rfl rfl rfl rfl rfl ?_
  refine r_aload_n C eX11_second_111 1 rfl rfl ?_
  refine r_bipush C (v := (-100)) eX11_second_112 (by decide) ?_
  obtain ⟨r8, hr8, hf⟩ := zlet_of hf
  refine r_V_v (ws' := W_Mo (z_g x) a0 o0 (gMo_ints v0) (gMo_told v0) (gMo_postX v0) (gMo_postStrong v0) (gMo_atRow v0) (gMo_heights v0) r8 (r1.2.1) (gMo_text v0) (gMo_said v0) (gMo_readTold v0) (gMo_readX v0) (gMo_readStrong v0) (gMo_readRow v0) (r1.2.2) (gMo_wasShip v0) (gMo_wasLines v0) (gMo_worst v0) (gMo_logRow v0) (gMo_images v0) (gMo_isKept v0)) C (c_Mo_knock (z_l x) (z_g x) a0 o0 ((gMo_ints v0), (gMo_told v0), (gMo_postX v0), (gMo_postStrong v0), (gMo_atRow v0), (gMo_heights v0), r7, (r1.2.1), (gMo_text v0), (gMo_said v0), (gMo_readTold v0), (gMo_readX v0), (gMo_readStrong v0), (gMo_readRow v0), (r1.2.2), (gMo_wasShip v0), (gMo_wasLines v0), (gMo_worst v0), (gMo_logRow v0), (gMo_images v0), (gMo_isKept v0)) (-100) r8 hr8) eX11_second_114 MX11_269 ⟨0, 11, _, _, rfl, rfl, rfl⟩ [0, 1, 2, 3, 4, 5, 6, 7, 8, 9, 10, 11, 12, 13, 14, 15, 16, 17, 18, 19] rfl rfl rfl rfl [] rfl trivial 20 rfl rfl rfl rfl rfl rfl ?_
  refine r_aload_n C eX11_second_117 1 rfl rfl ?_
  obtain ⟨r9, hr9, hf⟩ := zlet_of hf
  refine r_V_v (ws' := W_Mo (z_g x) a0 o0 (gMo_ints v0) (gMo_told v0) (gMo_postX v0) (gMo_postStrong v0) (gMo_atRow v0) (gMo_heights v0) r9 (r1.2.1) (gMo_text v0) (gMo_said v0) (gMo_readTold v0) (gMo_readX v0) (gMo_readStrong v0) (gMo_readRow v0) (r1.2.2) (gMo_wasShip v0) (gMo_wasLines v0) (gMo_worst v0) (gMo_logRow v0) (gMo_images v0) (gMo_isKept v0)) C (c_Mo_meet (z_l x) (z_g x) a0 o0 ((gMo_ints v0), (gMo_told v0), (gMo_postX v0), (gMo_postStrong v0), (gMo_atRow v0), (gMo_heights v0), r8, (r1.2.1), (gMo_text v0), (gMo_said v0), (gMo_readTold v0), (gMo_readX v0), (gMo_readStrong v0), (gMo_readRow v0), (r1.2.2), (gMo_wasShip v0), (gMo_wasLines v0), (gMo_worst v0), (gMo_logRow v0), (gMo_images v0), (gMo_isKept v0))  r9 hr9) eX11_second_118 MX11_273 ⟨0, 11, _, _, rfl, rfl, rfl⟩ [0, 1, 2, 3, 4, 5, 6, 7, 8, 9, 10, 11, 12, 13, 14, 15, 16, 17, 18, 19] rfl rfl rfl rfl [] rfl trivial 20 rfl rfl rfl rfl rfl rfl ?_
  refine r_aload_n C eX11_second_121 1 rfl rfl ?_
  refine r_get (v := .ref (a0 (o0 + 6))) C eX11_second_122 FX11_25 0 rfl rfl ?_
  refine r_iconst C (v := 1) eX11_second_125 (by decide) ?_
  refine r_laldN C eX11_second_126 6 1 (by decide) rfl (r9 1) rfl ?_
  refine r_ldc2 C (v := 30000) eX11_second_127 q1292 ?_
  refine r_lcmp_le C eX11_second_130 eX11_second_131 (fun c10 => ?_) (fun c10 => ?_)
  · rw [if_pos c10] at hf
    refine r_iload_n C eX11_second_170 0 rfl rfl ?_
    obtain rfl := Option.some.inj (show some (((r1.1), r9, (r1.2.1), (r1.2.2)) : Int32 × (Nat → Int64) × (Nat → Int32) × (Nat → Int32)) = some _ from hf)
    exact hret _ _ _ eX11_second_171
  · rw [if_neg c10] at hf
    refine r_aload_n C eX11_second_134 1 rfl rfl ?_
    refine r_get (v := .ref (a0 (o0 + 6))) C eX11_second_135 FX11_25 0 rfl rfl ?_
    refine r_iconst C (v := 1) eX11_second_138 (by decide) ?_
    refine r_ldc2 C (v := 30000) eX11_second_139 q1292 ?_
    refine r_lastN (ws' := W_Mo (z_g x) a0 o0 (gMo_ints v0) (gMo_told v0) (gMo_postX v0) (gMo_postStrong v0) (gMo_atRow v0) (gMo_heights v0) (vp_updL r9 1 30000) (r1.2.1) (gMo_text v0) (gMo_said v0) (gMo_readTold v0) (gMo_readX v0) (gMo_readStrong v0) (gMo_readRow v0) (r1.2.2) (gMo_wasShip v0) (gMo_wasLines v0) (gMo_worst v0) (gMo_logRow v0) (gMo_images v0) (gMo_isKept v0)) C eX11_second_142 6 1 (by decide) rfl rfl ?_
    refine r_aload_n C eX11_second_143 1 rfl rfl ?_
    refine r_get (v := .ref (a0 (o0 + 6))) C eX11_second_144 FX11_25 0 rfl rfl ?_
    refine r_iconst C (v := 4) eX11_second_147 (by decide) ?_
    refine r_aload_n C eX11_second_148 1 rfl rfl ?_
    refine r_get (v := .ref (a0 (o0 + 6))) C eX11_second_149 FX11_25 0 rfl rfl ?_
    refine r_iconst C (v := 4) eX11_second_152 (by decide) ?_
    refine r_laldN C eX11_second_153 6 4 (by decide) rfl (r9 4) rfl ?_
    refine r_lconst C (v := 0) eX11_second_154 (by decide) ?_
    obtain ⟨w11, hw11, hf⟩ := zlet_of hf
    have J12 : vV x 2 0 0 (W_Mo (z_g x) a0 o0 (gMo_ints v0) (gMo_told v0) (gMo_postX v0) (gMo_postStrong v0) (gMo_atRow v0) (gMo_heights v0) (vp_updL r9 1 30000) (r1.2.1) (gMo_text v0) (gMo_said v0) (gMo_readTold v0) (gMo_readX v0) (gMo_readStrong v0) (gMo_readRow v0) (r1.2.2) (gMo_wasShip v0) (gMo_wasLines v0) (gMo_worst v0) (gMo_logRow v0) (gMo_images v0) (gMo_isKept v0)) 169 [(1, .int (r1.1))] [.long w11, .int 4, .ref (a0 (o0 + 6))] := by
      refine r_lastN (ws' := W_Mo (z_g x) a0 o0 (gMo_ints v0) (gMo_told v0) (gMo_postX v0) (gMo_postStrong v0) (gMo_atRow v0) (gMo_heights v0) (vp_updL (vp_updL r9 1 30000) 4 w11) (r1.2.1) (gMo_text v0) (gMo_said v0) (gMo_readTold v0) (gMo_readX v0) (gMo_readStrong v0) (gMo_readRow v0) (r1.2.2) (gMo_wasShip v0) (gMo_wasLines v0) (gMo_worst v0) (gMo_logRow v0) (gMo_images v0) (gMo_isKept v0)) C eX11_second_169 6 4 (by decide) rfl rfl ?_
      refine r_iload_n C eX11_second_170 0 rfl rfl ?_
      obtain rfl := Option.some.inj (show some (((r1.1), (vp_updL (vp_updL r9 1 30000) 4 w11), (r1.2.1), (r1.2.2)) : Int32 × (Nat → Int64) × (Nat → Int32) × (Nat → Int32)) = some _ from hf)
      exact hret _ _ _ eX11_second_171
    refine r_lcmp_ge C eX11_second_155 eX11_second_156 (fun c13 => ?_) (fun c13 => ?_)
    · rw [if_pos c13] at hw11
      refine r_aload_n C eX11_second_163 1 rfl rfl ?_
      refine r_get (v := .ref (a0 (o0 + 6))) C eX11_second_164 FX11_25 0 rfl rfl ?_
      refine r_iconst C (v := 4) eX11_second_167 (by decide) ?_
      refine r_laldN C eX11_second_168 6 4 (by decide) rfl (r9 4) rfl ?_
      subst hw11
      refine r_sub (lv' := [(1, .int (r1.1))]) [0] rfl ?_
      exact J12 
    · rw [if_neg c13] at hw11
      refine r_lconst C (v := 0) eX11_second_159 (by decide) ?_
      refine r_goto C eX11_second_160 ?_
      subst hw11
      refine r_sub (lv' := [(1, .int (r1.1))]) [0] rfl ?_
      exact J12 
theorem eX11_size_0 : zd 1 cX11_size 0 1 (.lload_n 0) := ⟨by decide +kernel, rfl⟩
theorem eX11_size_1 : zd 1 cX11_size 1 2 (.lconst 0) := ⟨by decide +kernel, rfl⟩
theorem eX11_size_2 : zd 1 cX11_size 2 3 (.lcmp) := ⟨by decide +kernel, rfl⟩
theorem eX11_size_3 : zdi cX11_size 3 6 11 (.ifCond .ge) := ⟨8, by decide +kernel, rfl, by decide⟩
theorem eX11_size_6 : zd 1 cX11_size 6 7 (.lload_n 0) := ⟨by decide +kernel, rfl⟩
theorem eX11_size_7 : zd 1 cX11_size 7 8 (.lneg) := ⟨by decide +kernel, rfl⟩
theorem eX11_size_8 : zdi cX11_size 8 11 12 (.goto) := ⟨4, by decide +kernel, rfl, by decide⟩
theorem eX11_size_11 : zd 1 cX11_size 11 12 (.lload_n 0) := ⟨by decide +kernel, rfl⟩
theorem eX11_size_12 : zd 1 cX11_size 12 13 (.lreturn) := ⟨by decide +kernel, rfl⟩
noncomputable def f_Mo_size  (p1 : Int64) : Int64 := (if 0 ≤ p1 then p1 else (-p1))
abbrev rm_Mo_size : Room := { frames := 0, cells := 0, slots := 0, locals := 0 }
set_option maxHeartbeats 4000000 in
set_option maxRecDepth 100000 in
theorem c_Mo_size (l : Launch) (g : zGl)  (p1 : Int64) (out : Int64) (hf : f_Mo_size p1 = out) : zMl l yX11_size cX11_size 2 rm_Mo_size g [.long p1] ([]) out ([]) := by
  refine zMl_of (lv := [(0, .long p1)]) (by decide) (Nat.le_of_ble_eq_true rfl) rfl (fun x hl hg C hret => ?_)
  subst hl; subst hg
  rw [f_Mo_size] at hf
  refine r_lload_n C eX11_size_0 0 rfl rfl ?_
  refine r_lconst C (v := 0) eX11_size_1 (by decide) ?_
  refine r_lcmp_ge C eX11_size_2 eX11_size_3 (fun c1 => ?_) (fun c1 => ?_)
  · rw [if_pos c1] at hf
    refine r_lload_n C eX11_size_11 0 rfl rfl ?_
    subst hf
    exact hret _ _ _ eX11_size_12
  · rw [if_neg c1] at hf
    refine r_lload_n C eX11_size_6 0 rfl rfl ?_
    refine r_lneg C eX11_size_7 ?_
    refine r_goto C eX11_size_8 ?_
    subst hf
    exact hret _ _ _ eX11_size_12
theorem eX11_isSafe_0 : zd 1 cX11_isSafe 0 1 (.aload_n 0) := ⟨by decide +kernel, rfl⟩
theorem eX11_isSafe_1 : zd 3 cX11_isSafe 1 4 (.getfield 25) := ⟨by decide +kernel, rfl⟩
theorem eX11_isSafe_4 : zd 1 cX11_isSafe 4 5 (.iconst 3) := ⟨by decide +kernel, rfl⟩
theorem eX11_isSafe_5 : zd 1 cX11_isSafe 5 6 (.laload) := ⟨by decide +kernel, rfl⟩
theorem eX11_isSafe_6 : zd 3 cX11_isSafe 6 9 (.invokestatic 236) := ⟨by decide +kernel, rfl⟩
theorem eX11_isSafe_9 : zd 3 cX11_isSafe 9 12 (.ldc2_w 203) := ⟨by decide +kernel, rfl⟩
theorem eX11_isSafe_12 : zd 1 cX11_isSafe 12 13 (.lcmp) := ⟨by decide +kernel, rfl⟩
theorem eX11_isSafe_13 : zdi cX11_isSafe 13 16 68 (.ifCond .ge) := ⟨55, by decide +kernel, rfl, by decide⟩
theorem eX11_isSafe_16 : zd 1 cX11_isSafe 16 17 (.aload_n 0) := ⟨by decide +kernel, rfl⟩
theorem eX11_isSafe_17 : zd 3 cX11_isSafe 17 20 (.getfield 25) := ⟨by decide +kernel, rfl⟩
theorem eX11_isSafe_20 : zd 1 cX11_isSafe 20 21 (.iconst 4) := ⟨by decide +kernel, rfl⟩
theorem eX11_isSafe_21 : zd 1 cX11_isSafe 21 22 (.laload) := ⟨by decide +kernel, rfl⟩
theorem eX11_isSafe_22 : zd 3 cX11_isSafe 22 25 (.invokestatic 236) := ⟨by decide +kernel, rfl⟩
theorem eX11_isSafe_25 : zd 3 cX11_isSafe 25 28 (.ldc2_w 203) := ⟨by decide +kernel, rfl⟩
theorem eX11_isSafe_28 : zd 1 cX11_isSafe 28 29 (.lcmp) := ⟨by decide +kernel, rfl⟩
theorem eX11_isSafe_29 : zdi cX11_isSafe 29 32 68 (.ifCond .ge) := ⟨39, by decide +kernel, rfl, by decide⟩
theorem eX11_isSafe_32 : zd 1 cX11_isSafe 32 33 (.aload_n 0) := ⟨by decide +kernel, rfl⟩
theorem eX11_isSafe_33 : zd 3 cX11_isSafe 33 36 (.getfield 25) := ⟨by decide +kernel, rfl⟩
theorem eX11_isSafe_36 : zd 1 cX11_isSafe 36 37 (.iconst 5) := ⟨by decide +kernel, rfl⟩
theorem eX11_isSafe_37 : zd 1 cX11_isSafe 37 38 (.laload) := ⟨by decide +kernel, rfl⟩
theorem eX11_isSafe_38 : zd 3 cX11_isSafe 38 41 (.invokestatic 236) := ⟨by decide +kernel, rfl⟩
theorem eX11_isSafe_41 : zd 3 cX11_isSafe 41 44 (.ldc2_w 203) := ⟨by decide +kernel, rfl⟩
theorem eX11_isSafe_44 : zd 1 cX11_isSafe 44 45 (.lcmp) := ⟨by decide +kernel, rfl⟩
theorem eX11_isSafe_45 : zdi cX11_isSafe 45 48 68 (.ifCond .ge) := ⟨23, by decide +kernel, rfl, by decide⟩
theorem eX11_isSafe_48 : zd 1 cX11_isSafe 48 49 (.aload_n 0) := ⟨by decide +kernel, rfl⟩
theorem eX11_isSafe_49 : zd 3 cX11_isSafe 49 52 (.getfield 25) := ⟨by decide +kernel, rfl⟩
theorem eX11_isSafe_52 : zd 1 cX11_isSafe 52 53 (.iconst 2) := ⟨by decide +kernel, rfl⟩
theorem eX11_isSafe_53 : zd 1 cX11_isSafe 53 54 (.laload) := ⟨by decide +kernel, rfl⟩
theorem eX11_isSafe_54 : zd 3 cX11_isSafe 54 57 (.invokestatic 236) := ⟨by decide +kernel, rfl⟩
theorem eX11_isSafe_57 : zd 3 cX11_isSafe 57 60 (.ldc2_w 239) := ⟨by decide +kernel, rfl⟩
theorem eX11_isSafe_60 : zd 1 cX11_isSafe 60 61 (.lcmp) := ⟨by decide +kernel, rfl⟩
theorem eX11_isSafe_61 : zdi cX11_isSafe 61 64 68 (.ifCond .ge) := ⟨7, by decide +kernel, rfl, by decide⟩
theorem eX11_isSafe_64 : zd 1 cX11_isSafe 64 65 (.iconst 1) := ⟨by decide +kernel, rfl⟩
theorem eX11_isSafe_65 : zdi cX11_isSafe 65 68 69 (.goto) := ⟨4, by decide +kernel, rfl, by decide⟩
theorem eX11_isSafe_68 : zd 1 cX11_isSafe 68 69 (.iconst 0) := ⟨by decide +kernel, rfl⟩
theorem eX11_isSafe_69 : zd 1 cX11_isSafe 69 70 (.istore_n 1) := ⟨by decide +kernel, rfl⟩
theorem eX11_isSafe_70 : zd 1 cX11_isSafe 70 71 (.aload_n 0) := ⟨by decide +kernel, rfl⟩
theorem eX11_isSafe_71 : zd 2 cX11_isSafe 71 73 (.bipush 100) := ⟨by decide +kernel, rfl⟩
theorem eX11_isSafe_73 : zd 3 cX11_isSafe 73 76 (.invokevirtual 221) := ⟨by decide +kernel, rfl⟩
theorem eX11_isSafe_76 : zd 3 cX11_isSafe 76 79 (.ldc2_w 241) := ⟨by decide +kernel, rfl⟩
theorem eX11_isSafe_79 : zd 1 cX11_isSafe 79 80 (.lcmp) := ⟨by decide +kernel, rfl⟩
theorem eX11_isSafe_80 : zdi cX11_isSafe 80 83 100 (.ifCond .ge) := ⟨20, by decide +kernel, rfl, by decide⟩
theorem eX11_isSafe_83 : zd 1 cX11_isSafe 83 84 (.aload_n 0) := ⟨by decide +kernel, rfl⟩
theorem eX11_isSafe_84 : zd 2 cX11_isSafe 84 86 (.bipush (-100)) := ⟨by decide +kernel, rfl⟩
theorem eX11_isSafe_86 : zd 3 cX11_isSafe 86 89 (.invokevirtual 221) := ⟨by decide +kernel, rfl⟩
theorem eX11_isSafe_89 : zd 3 cX11_isSafe 89 92 (.ldc2_w 241) := ⟨by decide +kernel, rfl⟩
theorem eX11_isSafe_92 : zd 1 cX11_isSafe 92 93 (.lcmp) := ⟨by decide +kernel, rfl⟩
theorem eX11_isSafe_93 : zdi cX11_isSafe 93 96 100 (.ifCond .ge) := ⟨7, by decide +kernel, rfl, by decide⟩
theorem eX11_isSafe_96 : zd 1 cX11_isSafe 96 97 (.iconst 1) := ⟨by decide +kernel, rfl⟩
theorem eX11_isSafe_97 : zdi cX11_isSafe 97 100 101 (.goto) := ⟨4, by decide +kernel, rfl, by decide⟩
theorem eX11_isSafe_100 : zd 1 cX11_isSafe 100 101 (.iconst 0) := ⟨by decide +kernel, rfl⟩
theorem eX11_isSafe_101 : zd 1 cX11_isSafe 101 102 (.istore_n 2) := ⟨by decide +kernel, rfl⟩
theorem eX11_isSafe_102 : zd 1 cX11_isSafe 102 103 (.iload_n 1) := ⟨by decide +kernel, rfl⟩
theorem eX11_isSafe_103 : zdi cX11_isSafe 103 106 166 (.ifCond .eq) := ⟨63, by decide +kernel, rfl, by decide⟩
theorem eX11_isSafe_106 : zd 1 cX11_isSafe 106 107 (.iload_n 2) := ⟨by decide +kernel, rfl⟩
theorem eX11_isSafe_107 : zdi cX11_isSafe 107 110 166 (.ifCond .eq) := ⟨59, by decide +kernel, rfl, by decide⟩
theorem eX11_isSafe_110 : zd 1 cX11_isSafe 110 111 (.aload_n 0) := ⟨by decide +kernel, rfl⟩
theorem eX11_isSafe_111 : zd 2 cX11_isSafe 111 113 (.bipush 100) := ⟨by decide +kernel, rfl⟩
theorem eX11_isSafe_113 : zd 3 cX11_isSafe 113 116 (.invokevirtual 218) := ⟨by decide +kernel, rfl⟩
theorem eX11_isSafe_116 : zd 1 cX11_isSafe 116 117 (.aload_n 0) := ⟨by decide +kernel, rfl⟩
theorem eX11_isSafe_117 : zd 3 cX11_isSafe 117 120 (.getfield 7) := ⟨by decide +kernel, rfl⟩
theorem eX11_isSafe_120 : zd 1 cX11_isSafe 120 121 (.iconst 0) := ⟨by decide +kernel, rfl⟩
theorem eX11_isSafe_121 : zd 1 cX11_isSafe 121 122 (.iaload) := ⟨by decide +kernel, rfl⟩
theorem eX11_isSafe_122 : zd 1 cX11_isSafe 122 123 (.i2l) := ⟨by decide +kernel, rfl⟩
theorem eX11_isSafe_123 : zd 1 cX11_isSafe 123 124 (.aload_n 0) := ⟨by decide +kernel, rfl⟩
theorem eX11_isSafe_124 : zd 3 cX11_isSafe 124 127 (.getfield 7) := ⟨by decide +kernel, rfl⟩
theorem eX11_isSafe_127 : zd 1 cX11_isSafe 127 128 (.iconst 1) := ⟨by decide +kernel, rfl⟩
theorem eX11_isSafe_128 : zd 1 cX11_isSafe 128 129 (.iaload) := ⟨by decide +kernel, rfl⟩
theorem eX11_isSafe_129 : zd 1 cX11_isSafe 129 130 (.i2l) := ⟨by decide +kernel, rfl⟩
theorem eX11_isSafe_130 : zd 3 cX11_isSafe 130 133 (.invokestatic 86) := ⟨by decide +kernel, rfl⟩
theorem eX11_isSafe_133 : zdi cX11_isSafe 133 136 166 (.ifCond .eq) := ⟨33, by decide +kernel, rfl, by decide⟩
theorem eX11_isSafe_136 : zd 1 cX11_isSafe 136 137 (.aload_n 0) := ⟨by decide +kernel, rfl⟩
theorem eX11_isSafe_137 : zd 2 cX11_isSafe 137 139 (.bipush (-100)) := ⟨by decide +kernel, rfl⟩
theorem eX11_isSafe_139 : zd 3 cX11_isSafe 139 142 (.invokevirtual 218) := ⟨by decide +kernel, rfl⟩
theorem eX11_isSafe_142 : zd 1 cX11_isSafe 142 143 (.aload_n 0) := ⟨by decide +kernel, rfl⟩
theorem eX11_isSafe_143 : zd 3 cX11_isSafe 143 146 (.getfield 7) := ⟨by decide +kernel, rfl⟩
theorem eX11_isSafe_146 : zd 1 cX11_isSafe 146 147 (.iconst 0) := ⟨by decide +kernel, rfl⟩
theorem eX11_isSafe_147 : zd 1 cX11_isSafe 147 148 (.iaload) := ⟨by decide +kernel, rfl⟩
theorem eX11_isSafe_148 : zd 1 cX11_isSafe 148 149 (.i2l) := ⟨by decide +kernel, rfl⟩
theorem eX11_isSafe_149 : zd 1 cX11_isSafe 149 150 (.aload_n 0) := ⟨by decide +kernel, rfl⟩
theorem eX11_isSafe_150 : zd 3 cX11_isSafe 150 153 (.getfield 7) := ⟨by decide +kernel, rfl⟩
theorem eX11_isSafe_153 : zd 1 cX11_isSafe 153 154 (.iconst 1) := ⟨by decide +kernel, rfl⟩
theorem eX11_isSafe_154 : zd 1 cX11_isSafe 154 155 (.iaload) := ⟨by decide +kernel, rfl⟩
theorem eX11_isSafe_155 : zd 1 cX11_isSafe 155 156 (.i2l) := ⟨by decide +kernel, rfl⟩
theorem eX11_isSafe_156 : zd 3 cX11_isSafe 156 159 (.invokestatic 86) := ⟨by decide +kernel, rfl⟩
theorem eX11_isSafe_159 : zdi cX11_isSafe 159 162 166 (.ifCond .eq) := ⟨7, by decide +kernel, rfl, by decide⟩
theorem eX11_isSafe_162 : zd 1 cX11_isSafe 162 163 (.iconst 1) := ⟨by decide +kernel, rfl⟩
theorem eX11_isSafe_163 : zdi cX11_isSafe 163 166 167 (.goto) := ⟨4, by decide +kernel, rfl, by decide⟩
theorem eX11_isSafe_166 : zd 1 cX11_isSafe 166 167 (.iconst 0) := ⟨by decide +kernel, rfl⟩
theorem eX11_isSafe_167 : zd 1 cX11_isSafe 167 168 (.ireturn) := ⟨by decide +kernel, rfl⟩
theorem MX11_236 : zlS RX11 236 yX11_size cX11_size 2 ((Option.some FieldType.long)) 1 := ⟨q1321, q1322, q12, q1323, by decide, by decide, by decide +kernel⟩
noncomputable def f_Mo_isSafe (v0 : tMo)  : Int32 := (zlet (if 100 ≤ (f_Mo_size ((gMo_ship v0) 3)) then 0 else (if 100 ≤ (f_Mo_size ((gMo_ship v0) 4)) then 0 else (if 100 ≤ (f_Mo_size ((gMo_ship v0) 5)) then 0 else (if 2000 ≤ (f_Mo_size ((gMo_ship v0) 2)) then 0 else 1)))) (fun (w1 : Int32) => (zlet (if 300 ≤ (f_Mo_offOf v0 100) then 0 else (if 300 ≤ (f_Mo_offOf v0 (-100)) then 0 else 1)) (fun (w8 : Int32) => (if w1 = 0 then 0 else (if w8 = 0 then 0 else (if (f_Mo_in (f_Mo_along v0 100) ((gMo_told v0) 0).toInt64 ((gMo_told v0) 1).toInt64) = 0 then 0 else (if (f_Mo_in (f_Mo_along v0 (-100)) ((gMo_told v0) 0).toInt64 ((gMo_told v0) 1).toInt64) = 0 then 0 else 1))))))))
abbrev rm_Mo_isSafe : Room := { frames := 3, cells := 0, slots := 0, locals := 65 }
set_option maxHeartbeats 4000000 in
set_option maxRecDepth 100000 in
theorem c_Mo_isSafe (l : Launch) (g : zGl) (a0 : Nat → Nat) (o0 : Nat) (v0 : tMo)  (out : Int32) (hf : f_Mo_isSafe v0 = out) : zMz l yX11_isSafe cX11_isSafe 3 rm_Mo_isSafe g [.ref (a0 o0)] (W_Mo g a0 o0 (gMo_ints v0) (gMo_told v0) (gMo_postX v0) (gMo_postStrong v0) (gMo_atRow v0) (gMo_heights v0) (gMo_ship v0) (gMo_lines v0) (gMo_text v0) (gMo_said v0) (gMo_readTold v0) (gMo_readX v0) (gMo_readStrong v0) (gMo_readRow v0) (gMo_parting v0) (gMo_wasShip v0) (gMo_wasLines v0) (gMo_worst v0) (gMo_logRow v0) (gMo_images v0) (gMo_isKept v0)) out (W_Mo g a0 o0 (gMo_ints v0) (gMo_told v0) (gMo_postX v0) (gMo_postStrong v0) (gMo_atRow v0) (gMo_heights v0) (gMo_ship v0) (gMo_lines v0) (gMo_text v0) (gMo_said v0) (gMo_readTold v0) (gMo_readX v0) (gMo_readStrong v0) (gMo_readRow v0) (gMo_parting v0) (gMo_wasShip v0) (gMo_wasLines v0) (gMo_worst v0) (gMo_logRow v0) (gMo_images v0) (gMo_isKept v0)) := by
  refine zMz_of (lv := [(0, .ref (a0 o0))]) (by decide) (Nat.le_of_ble_eq_true rfl) rfl (fun x hl hg C hret => ?_)
  subst hl; subst hg
  rw [f_Mo_isSafe] at hf
  refine r_aload_n C eX11_isSafe_0 0 rfl rfl ?_
  refine r_get (v := .ref (a0 (o0 + 6))) C eX11_isSafe_1 FX11_25 0 rfl rfl ?_
  refine r_iconst C (v := 3) eX11_isSafe_4 (by decide) ?_
  refine r_laldN C eX11_isSafe_5 6 3 (by decide) rfl ((gMo_ship v0) 3) rfl ?_
  refine r_S_l (ws' := W_Mo (z_g x) a0 o0 (gMo_ints v0) (gMo_told v0) (gMo_postX v0) (gMo_postStrong v0) (gMo_atRow v0) (gMo_heights v0) (gMo_ship v0) (gMo_lines v0) (gMo_text v0) (gMo_said v0) (gMo_readTold v0) (gMo_readX v0) (gMo_readStrong v0) (gMo_readRow v0) (gMo_parting v0) (gMo_wasShip v0) (gMo_wasLines v0) (gMo_worst v0) (gMo_logRow v0) (gMo_images v0) (gMo_isKept v0)) C (c_Mo_size (z_l x) (z_g x)  ((gMo_ship v0) 3) _ rfl) eX11_isSafe_6 MX11_236 [] rfl rfl rfl rfl [0, 1, 2, 3, 4, 5, 6, 7, 8, 9, 10, 11, 12, 13, 14, 15, 16, 17, 18, 19] rfl ⟨rfl, rfl, rfl, rfl, rfl, rfl, rfl, rfl, rfl, rfl, rfl, rfl, rfl, rfl, rfl, rfl, rfl, rfl, rfl, rfl, trivial⟩ 20 rfl rfl rfl rfl rfl rfl ?_
  refine r_ldc2 C (v := 100) eX11_isSafe_9 q1315 ?_
  obtain ⟨w1, hw1, hf⟩ := zlet_of hf
  have J2 : zB w1 → vV x 3 0 0 (W_Mo (z_g x) a0 o0 (gMo_ints v0) (gMo_told v0) (gMo_postX v0) (gMo_postStrong v0) (gMo_atRow v0) (gMo_heights v0) (gMo_ship v0) (gMo_lines v0) (gMo_text v0) (gMo_said v0) (gMo_readTold v0) (gMo_readX v0) (gMo_readStrong v0) (gMo_readRow v0) (gMo_parting v0) (gMo_wasShip v0) (gMo_wasLines v0) (gMo_worst v0) (gMo_logRow v0) (gMo_images v0) (gMo_isKept v0)) 69 [(0, .ref (a0 o0))] [.int w1] := by
    intro zb3
    refine r_istore_n C [(1, .int w1), (0, .ref (a0 o0))] eX11_isSafe_69 rfl (by decide) rfl ?_
    refine r_aload_n C eX11_isSafe_70 1 rfl rfl ?_
    refine r_bipush C (v := 100) eX11_isSafe_71 (by decide) ?_
    refine r_V_l (ws' := W_Mo (z_g x) a0 o0 (gMo_ints v0) (gMo_told v0) (gMo_postX v0) (gMo_postStrong v0) (gMo_atRow v0) (gMo_heights v0) (gMo_ship v0) (gMo_lines v0) (gMo_text v0) (gMo_said v0) (gMo_readTold v0) (gMo_readX v0) (gMo_readStrong v0) (gMo_readRow v0) (gMo_parting v0) (gMo_wasShip v0) (gMo_wasLines v0) (gMo_worst v0) (gMo_logRow v0) (gMo_images v0) (gMo_isKept v0)) C (c_Mo_offOf (z_l x) (z_g x) a0 o0 v0 100 _ rfl) eX11_isSafe_73 MX11_221 ⟨0, 11, _, _, rfl, rfl, rfl⟩ [0, 1, 2, 3, 4, 5, 6, 7, 8, 9, 10, 11, 12, 13, 14, 15, 16, 17, 18, 19] rfl rfl rfl rfl [] rfl trivial 20 rfl rfl rfl rfl rfl rfl ?_
    refine r_ldc2 C (v := 300) eX11_isSafe_76 q1325 ?_
    obtain ⟨w8, hw8, hf⟩ := zlet_of hf
    have J9 : zB w8 → vV x 3 0 0 (W_Mo (z_g x) a0 o0 (gMo_ints v0) (gMo_told v0) (gMo_postX v0) (gMo_postStrong v0) (gMo_atRow v0) (gMo_heights v0) (gMo_ship v0) (gMo_lines v0) (gMo_text v0) (gMo_said v0) (gMo_readTold v0) (gMo_readX v0) (gMo_readStrong v0) (gMo_readRow v0) (gMo_parting v0) (gMo_wasShip v0) (gMo_wasLines v0) (gMo_worst v0) (gMo_logRow v0) (gMo_images v0) (gMo_isKept v0)) 101 [(0, .ref (a0 o0)), (1, .int w1)] [.int w8] := by
      intro zb10
      refine r_istore_n C [(2, .int w8), (0, .ref (a0 o0)), (1, .int w1)] eX11_isSafe_101 rfl (by decide) rfl ?_
      refine r_iload_n C eX11_isSafe_102 2 rfl rfl ?_
      refine r_if_eq C eX11_isSafe_103 (fun c13 => ?_) (fun c13 => ?_)
      · rw [if_pos c13] at hf
        refine r_iconst C (v := 0) eX11_isSafe_166 (by decide) ?_
        subst hf
        exact hret _ _ _ eX11_isSafe_167 zB0
      · rw [if_neg c13] at hf
        refine r_iload_n C eX11_isSafe_106 0 rfl rfl ?_
        refine r_if_eq C eX11_isSafe_107 (fun c14 => ?_) (fun c14 => ?_)
        · rw [if_pos c14] at hf
          refine r_iconst C (v := 0) eX11_isSafe_166 (by decide) ?_
          subst hf
          exact hret _ _ _ eX11_isSafe_167 zB0
        · rw [if_neg c14] at hf
          refine r_aload_n C eX11_isSafe_110 1 rfl rfl ?_
          refine r_bipush C (v := 100) eX11_isSafe_111 (by decide) ?_
          refine r_V_l (ws' := W_Mo (z_g x) a0 o0 (gMo_ints v0) (gMo_told v0) (gMo_postX v0) (gMo_postStrong v0) (gMo_atRow v0) (gMo_heights v0) (gMo_ship v0) (gMo_lines v0) (gMo_text v0) (gMo_said v0) (gMo_readTold v0) (gMo_readX v0) (gMo_readStrong v0) (gMo_readRow v0) (gMo_parting v0) (gMo_wasShip v0) (gMo_wasLines v0) (gMo_worst v0) (gMo_logRow v0) (gMo_images v0) (gMo_isKept v0)) C (c_Mo_along (z_l x) (z_g x) a0 o0 v0 100 _ rfl) eX11_isSafe_113 MX11_218 ⟨0, 11, _, _, rfl, rfl, rfl⟩ [0, 1, 2, 3, 4, 5, 6, 7, 8, 9, 10, 11, 12, 13, 14, 15, 16, 17, 18, 19] rfl rfl rfl rfl [] rfl trivial 20 rfl rfl rfl rfl rfl rfl ?_
          refine r_aload_n C eX11_isSafe_116 1 rfl rfl ?_
          refine r_get (v := .ref (a0 (o0 + 1))) C eX11_isSafe_117 FX11_7 0 rfl rfl ?_
          refine r_iconst C (v := 0) eX11_isSafe_120 (by decide) ?_
          refine r_ialdN C eX11_isSafe_121 1 0 (by decide) rfl ((gMo_told v0) 0) rfl ?_
          refine r_i2l C eX11_isSafe_122 ?_
          refine r_aload_n C eX11_isSafe_123 1 rfl rfl ?_
          refine r_get (v := .ref (a0 (o0 + 1))) C eX11_isSafe_124 FX11_7 0 rfl rfl ?_
          refine r_iconst C (v := 1) eX11_isSafe_127 (by decide) ?_
          refine r_ialdN C eX11_isSafe_128 1 1 (by decide) rfl ((gMo_told v0) 1) rfl ?_
          refine r_i2l C eX11_isSafe_129 ?_
          refine r_S_z (ws' := W_Mo (z_g x) a0 o0 (gMo_ints v0) (gMo_told v0) (gMo_postX v0) (gMo_postStrong v0) (gMo_atRow v0) (gMo_heights v0) (gMo_ship v0) (gMo_lines v0) (gMo_text v0) (gMo_said v0) (gMo_readTold v0) (gMo_readX v0) (gMo_readStrong v0) (gMo_readRow v0) (gMo_parting v0) (gMo_wasShip v0) (gMo_wasLines v0) (gMo_worst v0) (gMo_logRow v0) (gMo_images v0) (gMo_isKept v0)) C (c_Mo_in (z_l x) (z_g x)  (f_Mo_along v0 100) ((gMo_told v0) 0).toInt64 ((gMo_told v0) 1).toInt64 _ rfl) eX11_isSafe_130 MX11_86 [] rfl rfl rfl rfl [0, 1, 2, 3, 4, 5, 6, 7, 8, 9, 10, 11, 12, 13, 14, 15, 16, 17, 18, 19] rfl ⟨rfl, rfl, rfl, rfl, rfl, rfl, rfl, rfl, rfl, rfl, rfl, rfl, rfl, rfl, rfl, rfl, rfl, rfl, rfl, rfl, trivial⟩ 20 rfl rfl rfl rfl rfl rfl (fun zb15 => ?_)
          refine r_if_eq C eX11_isSafe_133 (fun c16 => ?_) (fun c16 => ?_)
          · rw [if_pos c16] at hf
            refine r_iconst C (v := 0) eX11_isSafe_166 (by decide) ?_
            subst hf
            exact hret _ _ _ eX11_isSafe_167 zB0
          · rw [if_neg c16] at hf
            refine r_aload_n C eX11_isSafe_136 1 rfl rfl ?_
            refine r_bipush C (v := (-100)) eX11_isSafe_137 (by decide) ?_
            refine r_V_l (ws' := W_Mo (z_g x) a0 o0 (gMo_ints v0) (gMo_told v0) (gMo_postX v0) (gMo_postStrong v0) (gMo_atRow v0) (gMo_heights v0) (gMo_ship v0) (gMo_lines v0) (gMo_text v0) (gMo_said v0) (gMo_readTold v0) (gMo_readX v0) (gMo_readStrong v0) (gMo_readRow v0) (gMo_parting v0) (gMo_wasShip v0) (gMo_wasLines v0) (gMo_worst v0) (gMo_logRow v0) (gMo_images v0) (gMo_isKept v0)) C (c_Mo_along (z_l x) (z_g x) a0 o0 v0 (-100) _ rfl) eX11_isSafe_139 MX11_218 ⟨0, 11, _, _, rfl, rfl, rfl⟩ [0, 1, 2, 3, 4, 5, 6, 7, 8, 9, 10, 11, 12, 13, 14, 15, 16, 17, 18, 19] rfl rfl rfl rfl [] rfl trivial 20 rfl rfl rfl rfl rfl rfl ?_
            refine r_aload_n C eX11_isSafe_142 1 rfl rfl ?_
            refine r_get (v := .ref (a0 (o0 + 1))) C eX11_isSafe_143 FX11_7 0 rfl rfl ?_
            refine r_iconst C (v := 0) eX11_isSafe_146 (by decide) ?_
            refine r_ialdN C eX11_isSafe_147 1 0 (by decide) rfl ((gMo_told v0) 0) rfl ?_
            refine r_i2l C eX11_isSafe_148 ?_
            refine r_aload_n C eX11_isSafe_149 1 rfl rfl ?_
            refine r_get (v := .ref (a0 (o0 + 1))) C eX11_isSafe_150 FX11_7 0 rfl rfl ?_
            refine r_iconst C (v := 1) eX11_isSafe_153 (by decide) ?_
            refine r_ialdN C eX11_isSafe_154 1 1 (by decide) rfl ((gMo_told v0) 1) rfl ?_
            refine r_i2l C eX11_isSafe_155 ?_
            refine r_S_z (ws' := W_Mo (z_g x) a0 o0 (gMo_ints v0) (gMo_told v0) (gMo_postX v0) (gMo_postStrong v0) (gMo_atRow v0) (gMo_heights v0) (gMo_ship v0) (gMo_lines v0) (gMo_text v0) (gMo_said v0) (gMo_readTold v0) (gMo_readX v0) (gMo_readStrong v0) (gMo_readRow v0) (gMo_parting v0) (gMo_wasShip v0) (gMo_wasLines v0) (gMo_worst v0) (gMo_logRow v0) (gMo_images v0) (gMo_isKept v0)) C (c_Mo_in (z_l x) (z_g x)  (f_Mo_along v0 (-100)) ((gMo_told v0) 0).toInt64 ((gMo_told v0) 1).toInt64 _ rfl) eX11_isSafe_156 MX11_86 [] rfl rfl rfl rfl [0, 1, 2, 3, 4, 5, 6, 7, 8, 9, 10, 11, 12, 13, 14, 15, 16, 17, 18, 19] rfl ⟨rfl, rfl, rfl, rfl, rfl, rfl, rfl, rfl, rfl, rfl, rfl, rfl, rfl, rfl, rfl, rfl, rfl, rfl, rfl, rfl, trivial⟩ 20 rfl rfl rfl rfl rfl rfl (fun zb17 => ?_)
            refine r_if_eq C eX11_isSafe_159 (fun c18 => ?_) (fun c18 => ?_)
            · rw [if_pos c18] at hf
              refine r_iconst C (v := 0) eX11_isSafe_166 (by decide) ?_
              subst hf
              exact hret _ _ _ eX11_isSafe_167 zB0
            · rw [if_neg c18] at hf
              refine r_iconst C (v := 1) eX11_isSafe_162 (by decide) ?_
              refine r_goto C eX11_isSafe_163 ?_
              subst hf
              exact hret _ _ _ eX11_isSafe_167 zB1
    refine r_lcmp_ge C eX11_isSafe_79 eX11_isSafe_80 (fun c11 => ?_) (fun c11 => ?_)
    · rw [if_pos c11] at hw8
      refine r_iconst C (v := 0) eX11_isSafe_100 (by decide) ?_
      subst hw8
      refine r_sub (lv' := [(0, .ref (a0 o0)), (1, .int w1)]) [1, 0] rfl ?_
      exact J9 zB0
    · rw [if_neg c11] at hw8
      refine r_aload_n C eX11_isSafe_83 1 rfl rfl ?_
      refine r_bipush C (v := (-100)) eX11_isSafe_84 (by decide) ?_
      refine r_V_l (ws' := W_Mo (z_g x) a0 o0 (gMo_ints v0) (gMo_told v0) (gMo_postX v0) (gMo_postStrong v0) (gMo_atRow v0) (gMo_heights v0) (gMo_ship v0) (gMo_lines v0) (gMo_text v0) (gMo_said v0) (gMo_readTold v0) (gMo_readX v0) (gMo_readStrong v0) (gMo_readRow v0) (gMo_parting v0) (gMo_wasShip v0) (gMo_wasLines v0) (gMo_worst v0) (gMo_logRow v0) (gMo_images v0) (gMo_isKept v0)) C (c_Mo_offOf (z_l x) (z_g x) a0 o0 v0 (-100) _ rfl) eX11_isSafe_86 MX11_221 ⟨0, 11, _, _, rfl, rfl, rfl⟩ [0, 1, 2, 3, 4, 5, 6, 7, 8, 9, 10, 11, 12, 13, 14, 15, 16, 17, 18, 19] rfl rfl rfl rfl [] rfl trivial 20 rfl rfl rfl rfl rfl rfl ?_
      refine r_ldc2 C (v := 300) eX11_isSafe_89 q1325 ?_
      refine r_lcmp_ge C eX11_isSafe_92 eX11_isSafe_93 (fun c12 => ?_) (fun c12 => ?_)
      · rw [if_pos c12] at hw8
        refine r_iconst C (v := 0) eX11_isSafe_100 (by decide) ?_
        subst hw8
        refine r_sub (lv' := [(0, .ref (a0 o0)), (1, .int w1)]) [1, 0] rfl ?_
        exact J9 zB0
      · rw [if_neg c12] at hw8
        refine r_iconst C (v := 1) eX11_isSafe_96 (by decide) ?_
        refine r_goto C eX11_isSafe_97 ?_
        subst hw8
        refine r_sub (lv' := [(0, .ref (a0 o0)), (1, .int w1)]) [1, 0] rfl ?_
        exact J9 zB1
  refine r_lcmp_ge C eX11_isSafe_12 eX11_isSafe_13 (fun c4 => ?_) (fun c4 => ?_)
  · rw [if_pos c4] at hw1
    refine r_iconst C (v := 0) eX11_isSafe_68 (by decide) ?_
    subst hw1
    exact J2 zB0
  · rw [if_neg c4] at hw1
    refine r_aload_n C eX11_isSafe_16 0 rfl rfl ?_
    refine r_get (v := .ref (a0 (o0 + 6))) C eX11_isSafe_17 FX11_25 0 rfl rfl ?_
    refine r_iconst C (v := 4) eX11_isSafe_20 (by decide) ?_
    refine r_laldN C eX11_isSafe_21 6 4 (by decide) rfl ((gMo_ship v0) 4) rfl ?_
    refine r_S_l (ws' := W_Mo (z_g x) a0 o0 (gMo_ints v0) (gMo_told v0) (gMo_postX v0) (gMo_postStrong v0) (gMo_atRow v0) (gMo_heights v0) (gMo_ship v0) (gMo_lines v0) (gMo_text v0) (gMo_said v0) (gMo_readTold v0) (gMo_readX v0) (gMo_readStrong v0) (gMo_readRow v0) (gMo_parting v0) (gMo_wasShip v0) (gMo_wasLines v0) (gMo_worst v0) (gMo_logRow v0) (gMo_images v0) (gMo_isKept v0)) C (c_Mo_size (z_l x) (z_g x)  ((gMo_ship v0) 4) _ rfl) eX11_isSafe_22 MX11_236 [] rfl rfl rfl rfl [0, 1, 2, 3, 4, 5, 6, 7, 8, 9, 10, 11, 12, 13, 14, 15, 16, 17, 18, 19] rfl ⟨rfl, rfl, rfl, rfl, rfl, rfl, rfl, rfl, rfl, rfl, rfl, rfl, rfl, rfl, rfl, rfl, rfl, rfl, rfl, rfl, trivial⟩ 20 rfl rfl rfl rfl rfl rfl ?_
    refine r_ldc2 C (v := 100) eX11_isSafe_25 q1315 ?_
    refine r_lcmp_ge C eX11_isSafe_28 eX11_isSafe_29 (fun c5 => ?_) (fun c5 => ?_)
    · rw [if_pos c5] at hw1
      refine r_iconst C (v := 0) eX11_isSafe_68 (by decide) ?_
      subst hw1
      exact J2 zB0
    · rw [if_neg c5] at hw1
      refine r_aload_n C eX11_isSafe_32 0 rfl rfl ?_
      refine r_get (v := .ref (a0 (o0 + 6))) C eX11_isSafe_33 FX11_25 0 rfl rfl ?_
      refine r_iconst C (v := 5) eX11_isSafe_36 (by decide) ?_
      refine r_laldN C eX11_isSafe_37 6 5 (by decide) rfl ((gMo_ship v0) 5) rfl ?_
      refine r_S_l (ws' := W_Mo (z_g x) a0 o0 (gMo_ints v0) (gMo_told v0) (gMo_postX v0) (gMo_postStrong v0) (gMo_atRow v0) (gMo_heights v0) (gMo_ship v0) (gMo_lines v0) (gMo_text v0) (gMo_said v0) (gMo_readTold v0) (gMo_readX v0) (gMo_readStrong v0) (gMo_readRow v0) (gMo_parting v0) (gMo_wasShip v0) (gMo_wasLines v0) (gMo_worst v0) (gMo_logRow v0) (gMo_images v0) (gMo_isKept v0)) C (c_Mo_size (z_l x) (z_g x)  ((gMo_ship v0) 5) _ rfl) eX11_isSafe_38 MX11_236 [] rfl rfl rfl rfl [0, 1, 2, 3, 4, 5, 6, 7, 8, 9, 10, 11, 12, 13, 14, 15, 16, 17, 18, 19] rfl ⟨rfl, rfl, rfl, rfl, rfl, rfl, rfl, rfl, rfl, rfl, rfl, rfl, rfl, rfl, rfl, rfl, rfl, rfl, rfl, rfl, trivial⟩ 20 rfl rfl rfl rfl rfl rfl ?_
      refine r_ldc2 C (v := 100) eX11_isSafe_41 q1315 ?_
      refine r_lcmp_ge C eX11_isSafe_44 eX11_isSafe_45 (fun c6 => ?_) (fun c6 => ?_)
      · rw [if_pos c6] at hw1
        refine r_iconst C (v := 0) eX11_isSafe_68 (by decide) ?_
        subst hw1
        exact J2 zB0
      · rw [if_neg c6] at hw1
        refine r_aload_n C eX11_isSafe_48 0 rfl rfl ?_
        refine r_get (v := .ref (a0 (o0 + 6))) C eX11_isSafe_49 FX11_25 0 rfl rfl ?_
        refine r_iconst C (v := 2) eX11_isSafe_52 (by decide) ?_
        refine r_laldN C eX11_isSafe_53 6 2 (by decide) rfl ((gMo_ship v0) 2) rfl ?_
        refine r_S_l (ws' := W_Mo (z_g x) a0 o0 (gMo_ints v0) (gMo_told v0) (gMo_postX v0) (gMo_postStrong v0) (gMo_atRow v0) (gMo_heights v0) (gMo_ship v0) (gMo_lines v0) (gMo_text v0) (gMo_said v0) (gMo_readTold v0) (gMo_readX v0) (gMo_readStrong v0) (gMo_readRow v0) (gMo_parting v0) (gMo_wasShip v0) (gMo_wasLines v0) (gMo_worst v0) (gMo_logRow v0) (gMo_images v0) (gMo_isKept v0)) C (c_Mo_size (z_l x) (z_g x)  ((gMo_ship v0) 2) _ rfl) eX11_isSafe_54 MX11_236 [] rfl rfl rfl rfl [0, 1, 2, 3, 4, 5, 6, 7, 8, 9, 10, 11, 12, 13, 14, 15, 16, 17, 18, 19] rfl ⟨rfl, rfl, rfl, rfl, rfl, rfl, rfl, rfl, rfl, rfl, rfl, rfl, rfl, rfl, rfl, rfl, rfl, rfl, rfl, rfl, trivial⟩ 20 rfl rfl rfl rfl rfl rfl ?_
        refine r_ldc2 C (v := 2000) eX11_isSafe_57 q1324 ?_
        refine r_lcmp_ge C eX11_isSafe_60 eX11_isSafe_61 (fun c7 => ?_) (fun c7 => ?_)
        · rw [if_pos c7] at hw1
          refine r_iconst C (v := 0) eX11_isSafe_68 (by decide) ?_
          subst hw1
          exact J2 zB0
        · rw [if_neg c7] at hw1
          refine r_iconst C (v := 1) eX11_isSafe_64 (by decide) ?_
          refine r_goto C eX11_isSafe_65 ?_
          subst hw1
          exact J2 zB1
