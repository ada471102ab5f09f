theorem eX11_clear_0 : zd 1 cX11_clear 0 1 (.aload_n 0) := ⟨by decide +kernel, rfl⟩
theorem eX11_clear_1 : zd 3 cX11_clear 1 4 (.getfield 409) := ⟨by decide +kernel, rfl⟩
theorem eX11_clear_4 : zd 1 cX11_clear 4 5 (.istore_n 1) := ⟨by decide +kernel, rfl⟩
theorem eX11_clear_5 : zd 1 cX11_clear 5 6 (.aload_n 0) := ⟨by decide +kernel, rfl⟩
theorem eX11_clear_6 : zd 1 cX11_clear 6 7 (.iconst 0) := ⟨by decide +kernel, rfl⟩
theorem eX11_clear_7 : zd 3 cX11_clear 7 10 (.putfield 409) := ⟨by decide +kernel, rfl⟩
theorem eX11_clear_10 : zd 1 cX11_clear 10 11 (.iload_n 1) := ⟨by decide +kernel, rfl⟩
theorem eX11_clear_11 : zd 1 cX11_clear 11 12 (.ireturn) := ⟨by decide +kernel, rfl⟩
theorem FX11_409 : zlF RX11 409 11 30 := ⟨(RX11, TX11, 34), rfl, by decide, q1101, zin11⟩
theorem PX11_409 : zlP RX11 409 11 30 .int := ⟨(RX11, TX11, 34), tyX11, rfl, by decide, q1101, zin11, tyX11_ok, nmX11, rfl, by decide +kernel⟩
noncomputable def f_Mo_clear (v0 : tMo)  : Int32 × (Nat → Int32) := (((gMo_ints v0) 30), (upd (gMo_ints v0) 30 0))
abbrev rm_Mo_clear : Room := { frames := 0, cells := 0, slots := 0, locals := 0 }
set_option maxHeartbeats 4000000 in
set_option maxRecDepth 100000 in
theorem c_Mo_clear (l : Launch) (g : zGl) (a0 : Nat → Nat) (o0 : Nat) (v0 : tMo)  (out : Int32 × (Nat → Int32)) (hf : f_Mo_clear v0 = out) : zMi l yX11_clear cX11_clear 2 rm_Mo_clear g [.ref (a0 o0)] (W_Mo g a0 o0 (gMo_ints v0) (gMo_told v0) (gMo_postX v0) (gMo_postStrong v0) (gMo_atRow v0) (gMo_heights v0) (gMo_ship v0) (gMo_lines v0) (gMo_text v0) (gMo_said v0) (gMo_readTold v0) (gMo_readX v0) (gMo_readStrong v0) (gMo_readRow v0) (gMo_parting v0) (gMo_wasShip v0) (gMo_wasLines v0) (gMo_worst v0) (gMo_logRow v0) (gMo_images v0) (gMo_isKept v0)) (out.1) (W_Mo g a0 o0 (out.2) (gMo_told v0) (gMo_postX v0) (gMo_postStrong v0) (gMo_atRow v0) (gMo_heights v0) (gMo_ship v0) (gMo_lines v0) (gMo_text v0) (gMo_said v0) (gMo_readTold v0) (gMo_readX v0) (gMo_readStrong v0) (gMo_readRow v0) (gMo_parting v0) (gMo_wasShip v0) (gMo_wasLines v0) (gMo_worst v0) (gMo_logRow v0) (gMo_images v0) (gMo_isKept v0)) := by
  refine zMi_of (lv := [(0, .ref (a0 o0))]) (by decide) (Nat.le_of_ble_eq_true rfl) rfl (fun x hl hg C hret => ?_)
  subst hl; subst hg
  rw [f_Mo_clear] at hf
  refine r_aload_n C eX11_clear_0 0 rfl rfl ?_
  refine r_get (v := .int ((gMo_ints v0) 30)) C eX11_clear_1 FX11_409 0 rfl rfl ?_
  refine r_istore_n C [(1, .int ((gMo_ints v0) 30)), (0, .ref (a0 o0))] eX11_clear_4 rfl (by decide) rfl ?_
  refine r_aload_n C eX11_clear_5 1 rfl rfl ?_
  refine r_iconst C (v := 0) eX11_clear_6 (by decide) ?_
  refine r_put (ws' := W_Mo (z_g x) a0 o0 (upd (gMo_ints v0) 30 0) (gMo_told v0) (gMo_postX v0) (gMo_postStrong v0) (gMo_atRow v0) (gMo_heights v0) (gMo_ship v0) (gMo_lines v0) (gMo_text v0) (gMo_said v0) (gMo_readTold v0) (gMo_readX v0) (gMo_readStrong v0) (gMo_readRow v0) (gMo_parting v0) (gMo_wasShip v0) (gMo_wasLines v0) (gMo_worst v0) (gMo_logRow v0) (gMo_images v0) (gMo_isKept v0)) C eX11_clear_7 PX11_409 0 rfl rfl rfl (Nat.le_of_ble_eq_true rfl) rfl ?_
  refine r_iload_n C eX11_clear_10 0 rfl rfl ?_
  subst hf
  exact hret _ _ _ eX11_clear_11
theorem eX11_isPost_0 : zd 1 cX11_isPost 0 1 (.iload_n 1) := ⟨by decide +kernel, rfl⟩
theorem eX11_isPost_1 : zd 1 cX11_isPost 1 2 (.i2l) := ⟨by decide +kernel, rfl⟩
theorem eX11_isPost_2 : zd 1 cX11_isPost 2 3 (.lconst 0) := ⟨by decide +kernel, rfl⟩
theorem eX11_isPost_3 : zd 1 cX11_isPost 3 4 (.aload_n 0) := ⟨by decide +kernel, rfl⟩
theorem eX11_isPost_4 : zd 3 cX11_isPost 4 7 (.getfield 176) := ⟨by decide +kernel, rfl⟩
theorem eX11_isPost_7 : zd 1 cX11_isPost 7 8 (.iconst 1) := ⟨by decide +kernel, rfl⟩
theorem eX11_isPost_8 : zd 1 cX11_isPost 8 9 (.isub) := ⟨by decide +kernel, rfl⟩
theorem eX11_isPost_9 : zd 1 cX11_isPost 9 10 (.i2l) := ⟨by decide +kernel, rfl⟩
theorem eX11_isPost_10 : zd 3 cX11_isPost 10 13 (.invokestatic 86) := ⟨by decide +kernel, rfl⟩
theorem eX11_isPost_13 : zd 1 cX11_isPost 13 14 (.ireturn) := ⟨by decide +kernel, rfl⟩
theorem FX11_176 : zlF RX11 176 11 1 := ⟨(RX11, TX11, 34), rfl, by decide, q1072, zin11⟩
noncomputable def f_Mo_isPost (v0 : tMo) (p1 : Int32) : Int32 := (f_Mo_in p1.toInt64 0 (((gMo_ints v0) 1) - 1).toInt64)
abbrev rm_Mo_isPost : Room := { frames := 1, cells := 0, slots := 0, locals := 25 }
set_option maxHeartbeats 4000000 in
set_option maxRecDepth 100000 in
theorem c_Mo_isPost (l : Launch) (g : zGl) (a0 : Nat → Nat) (o0 : Nat) (v0 : tMo) (p1 : Int32) (out : Int32) (hf : f_Mo_isPost v0 p1 = out) : zMz l yX11_isPost cX11_isPost 2 rm_Mo_isPost g [.ref (a0 o0), .int p1] (W_Mo g a0 o0 (gMo_ints v0) (gMo_told v0) (gMo_postX v0) (gMo_postStrong v0) (gMo_atRow v0) (gMo_heights v0) (gMo_ship v0) (gMo_lines v0) (gMo_text v0) (gMo_said v0) (gMo_readTold v0) (gMo_readX v0) (gMo_readStrong v0) (gMo_readRow v0) (gMo_parting v0) (gMo_wasShip v0) (gMo_wasLines v0) (gMo_worst v0) (gMo_logRow v0) (gMo_images v0) (gMo_isKept v0)) out (W_Mo g a0 o0 (gMo_ints v0) (gMo_told v0) (gMo_postX v0) (gMo_postStrong v0) (gMo_atRow v0) (gMo_heights v0) (gMo_ship v0) (gMo_lines v0) (gMo_text v0) (gMo_said v0) (gMo_readTold v0) (gMo_readX v0) (gMo_readStrong v0) (gMo_readRow v0) (gMo_parting v0) (gMo_wasShip v0) (gMo_wasLines v0) (gMo_worst v0) (gMo_logRow v0) (gMo_images v0) (gMo_isKept v0)) := by
  refine zMz_of (lv := [(0, .ref (a0 o0)), (1, .int p1)]) (by decide) (Nat.le_of_ble_eq_true rfl) rfl (fun x hl hg C hret => ?_)
  subst hl; subst hg
  rw [f_Mo_isPost] at hf
  refine r_iload_n C eX11_isPost_0 1 rfl rfl ?_
  refine r_i2l C eX11_isPost_1 ?_
  refine r_lconst C (v := 0) eX11_isPost_2 (by decide) ?_
  refine r_aload_n C eX11_isPost_3 0 rfl rfl ?_
  refine r_get (v := .int ((gMo_ints v0) 1)) C eX11_isPost_4 FX11_176 0 rfl rfl ?_
  refine r_iconst C (v := 1) eX11_isPost_7 (by decide) ?_
  refine r_isub C eX11_isPost_8 ?_
  refine r_i2l C eX11_isPost_9 ?_
  refine r_S_z (ws' := W_Mo (z_g x) a0 o0 (gMo_ints v0) (gMo_told v0) (gMo_postX v0) (gMo_postStrong v0) (gMo_atRow v0) (gMo_heights v0) (gMo_ship v0) (gMo_lines v0) (gMo_text v0) (gMo_said v0) (gMo_readTold v0) (gMo_readX v0) (gMo_readStrong v0) (gMo_readRow v0) (gMo_parting v0) (gMo_wasShip v0) (gMo_wasLines v0) (gMo_worst v0) (gMo_logRow v0) (gMo_images v0) (gMo_isKept v0)) C (c_Mo_in (z_l x) (z_g x)  p1.toInt64 0 (((gMo_ints v0) 1) - 1).toInt64 _ rfl) eX11_isPost_10 MX11_86 [] rfl rfl rfl rfl [0, 1, 2, 3, 4, 5, 6, 7, 8, 9, 10, 11, 12, 13, 14, 15, 16, 17, 18, 19] rfl ⟨rfl, rfl, rfl, rfl, rfl, rfl, rfl, rfl, rfl, rfl, rfl, rfl, rfl, rfl, rfl, rfl, rfl, rfl, rfl, rfl, trivial⟩ 20 rfl rfl rfl rfl rfl rfl (fun zb1 => ?_)
  subst hf
  exact hret _ _ _ eX11_isPost_13 zb1
theorem eX11_isPlace_0 : zd 1 cX11_isPlace 0 1 (.iload_n 0) := ⟨by decide +kernel, rfl⟩
theorem eX11_isPlace_1 : zd 1 cX11_isPlace 1 2 (.i2l) := ⟨by decide +kernel, rfl⟩
theorem eX11_isPlace_2 : zd 3 cX11_isPlace 2 5 (.ldc2_w 321) := ⟨by decide +kernel, rfl⟩
theorem eX11_isPlace_5 : zd 3 cX11_isPlace 5 8 (.ldc2_w 203) := ⟨by decide +kernel, rfl⟩
theorem eX11_isPlace_8 : zd 3 cX11_isPlace 8 11 (.invokestatic 86) := ⟨by decide +kernel, rfl⟩
theorem eX11_isPlace_11 : zd 1 cX11_isPlace 11 12 (.ireturn) := ⟨by decide +kernel, rfl⟩
noncomputable def f_Mo_isPlace  (p1 : Int32) : Int32 := (f_Mo_in p1.toInt64 (-100) 100)
abbrev rm_Mo_isPlace : Room := { frames := 1, cells := 0, slots := 0, locals := 25 }
set_option maxHeartbeats 4000000 in
set_option maxRecDepth 100000 in
theorem c_Mo_isPlace (l : Launch) (g : zGl)  (p1 : Int32) (out : Int32) (hf : f_Mo_isPlace p1 = out) : zMz l yX11_isPlace cX11_isPlace 1 rm_Mo_isPlace g [.int p1] ([]) out ([]) := by
  refine zMz_of (lv := [(0, .int p1)]) (by decide) (Nat.le_of_ble_eq_true rfl) rfl (fun x hl hg C hret => ?_)
  subst hl; subst hg
  rw [f_Mo_isPlace] at hf
  refine r_iload_n C eX11_isPlace_0 0 rfl rfl ?_
  refine r_i2l C eX11_isPlace_1 ?_
  refine r_ldc2 C (v := (-100)) eX11_isPlace_2 q1406 ?_
  refine r_ldc2 C (v := 100) eX11_isPlace_5 q1315 ?_
  refine r_S_z (ws' := []) C (c_Mo_in (z_l x) (z_g x)  p1.toInt64 (-100) 100 _ rfl) eX11_isPlace_8 MX11_86 [] rfl rfl rfl rfl [] rfl trivial 0 rfl rfl rfl rfl rfl rfl (fun zb1 => ?_)
  subst hf
  exact hret _ _ _ eX11_isPlace_11 zb1
theorem eX11_does_0 : zd 1 cX11_does 0 1 (.aload_n 0) := ⟨by decide +kernel, rfl⟩
theorem eX11_does_1 : zd 1 cX11_does 1 2 (.iload_n 2) := ⟨by decide +kernel, rfl⟩
theorem eX11_does_2 : zd 3 cX11_does 2 5 (.invokevirtual 198) := ⟨by decide +kernel, rfl⟩
theorem eX11_does_5 : zdi cX11_does 5 8 11 (.ifCond .ne) := ⟨6, by decide +kernel, rfl, by decide⟩
theorem eX11_does_8 : zd 2 cX11_does 8 10 (.ldc 202) := ⟨by decide +kernel, rfl⟩
theorem eX11_does_10 : zd 1 cX11_does 10 11 (.ireturn) := ⟨by decide +kernel, rfl⟩
theorem eX11_does_11 : zd 1 cX11_does 11 12 (.iload_n 1) := ⟨by decide +kernel, rfl⟩
theorem eX11_does_12 : zd 3 cX11_does 12 15 (.invokestatic 323) := ⟨by decide +kernel, rfl⟩
theorem eX11_does_15 : zdi cX11_does 15 18 21 (.ifCond .ne) := ⟨6, by decide +kernel, rfl, by decide⟩
theorem eX11_does_18 : zd 2 cX11_does 18 20 (.ldc 90) := ⟨by decide +kernel, rfl⟩
theorem eX11_does_20 : zd 1 cX11_does 20 21 (.ireturn) := ⟨by decide +kernel, rfl⟩
theorem eX11_does_21 : zd 1 cX11_does 21 22 (.aload_n 0) := ⟨by decide +kernel, rfl⟩
theorem eX11_does_22 : zd 3 cX11_does 22 25 (.getfield 13) := ⟨by decide +kernel, rfl⟩
theorem eX11_does_25 : zd 1 cX11_does 25 26 (.iload_n 2) := ⟨by decide +kernel, rfl⟩
theorem eX11_does_26 : zd 1 cX11_does 26 27 (.iaload) := ⟨by decide +kernel, rfl⟩
theorem eX11_does_27 : zd 1 cX11_does 27 28 (.i2l) := ⟨by decide +kernel, rfl⟩
theorem eX11_does_28 : zd 1 cX11_does 28 29 (.aload_n 0) := ⟨by decide +kernel, rfl⟩
theorem eX11_does_29 : zd 1 cX11_does 29 30 (.iload_n 1) := ⟨by decide +kernel, rfl⟩
theorem eX11_does_30 : zd 3 cX11_does 30 33 (.invokevirtual 218) := ⟨by decide +kernel, rfl⟩
theorem eX11_does_33 : zd 1 cX11_does 33 34 (.lsub) := ⟨by decide +kernel, rfl⟩
theorem eX11_does_34 : zd 1 cX11_does 34 35 (.lstore_n 3) := ⟨by decide +kernel, rfl⟩
theorem eX11_does_35 : zd 1 cX11_does 35 36 (.aload_n 0) := ⟨by decide +kernel, rfl⟩
theorem eX11_does_36 : zd 1 cX11_does 36 37 (.iload_n 1) := ⟨by decide +kernel, rfl⟩
theorem eX11_does_37 : zd 3 cX11_does 37 40 (.invokevirtual 221) := ⟨by decide +kernel, rfl⟩
theorem eX11_does_40 : zd 1 cX11_does 40 41 (.lconst 0) := ⟨by decide +kernel, rfl⟩
theorem eX11_does_41 : zd 1 cX11_does 41 42 (.lcmp) := ⟨by decide +kernel, rfl⟩
theorem eX11_does_42 : zdi cX11_does 42 45 49 (.ifCond .le) := ⟨7, by decide +kernel, rfl, by decide⟩
theorem eX11_does_45 : zd 1 cX11_does 45 46 (.iconst 1) := ⟨by decide +kernel, rfl⟩
theorem eX11_does_46 : zdi cX11_does 46 49 50 (.goto) := ⟨4, by decide +kernel, rfl, by decide⟩
theorem eX11_does_49 : zd 1 cX11_does 49 50 (.iconst 0) := ⟨by decide +kernel, rfl⟩
theorem eX11_does_50 : zd 2 cX11_does 50 52 (.istore 5) := ⟨by decide +kernel, rfl⟩
theorem eX11_does_52 : zd 1 cX11_does 52 53 (.lload_n 3) := ⟨by decide +kernel, rfl⟩
theorem eX11_does_53 : zd 1 cX11_does 53 54 (.lconst 0) := ⟨by decide +kernel, rfl⟩
theorem eX11_does_54 : zd 1 cX11_does 54 55 (.lcmp) := ⟨by decide +kernel, rfl⟩
theorem eX11_does_55 : zdi cX11_does 55 58 62 (.ifCond .le) := ⟨7, by decide +kernel, rfl, by decide⟩
theorem eX11_does_58 : zd 1 cX11_does 58 59 (.iconst 1) := ⟨by decide +kernel, rfl⟩
theorem eX11_does_59 : zdi cX11_does 59 62 73 (.goto) := ⟨14, by decide +kernel, rfl, by decide⟩
theorem eX11_does_62 : zd 1 cX11_does 62 63 (.lload_n 3) := ⟨by decide +kernel, rfl⟩
theorem eX11_does_63 : zd 1 cX11_does 63 64 (.lconst 0) := ⟨by decide +kernel, rfl⟩
theorem eX11_does_64 : zd 1 cX11_does 64 65 (.lcmp) := ⟨by decide +kernel, rfl⟩
theorem eX11_does_65 : zdi cX11_does 65 68 72 (.ifCond .ge) := ⟨7, by decide +kernel, rfl, by decide⟩
theorem eX11_does_68 : zd 1 cX11_does 68 69 (.iconst 2) := ⟨by decide +kernel, rfl⟩
theorem eX11_does_69 : zdi cX11_does 69 72 73 (.goto) := ⟨4, by decide +kernel, rfl, by decide⟩
theorem eX11_does_72 : zd 1 cX11_does 72 73 (.iconst 0) := ⟨by decide +kernel, rfl⟩
theorem eX11_does_73 : zd 2 cX11_does 73 75 (.istore 6) := ⟨by decide +kernel, rfl⟩
theorem eX11_does_75 : zd 2 cX11_does 75 77 (.iload 6) := ⟨by decide +kernel, rfl⟩
theorem eX11_does_77 : zd 2 cX11_does 77 79 (.iload 5) := ⟨by decide +kernel, rfl⟩
theorem eX11_does_79 : zdi cX11_does 79 82 86 (.ifCond .eq) := ⟨7, by decide +kernel, rfl, by decide⟩
theorem eX11_does_82 : zd 1 cX11_does 82 83 (.iconst 4) := ⟨by decide +kernel, rfl⟩
theorem eX11_does_83 : zdi cX11_does 83 86 87 (.goto) := ⟨4, by decide +kernel, rfl, by decide⟩
theorem eX11_does_86 : zd 1 cX11_does 86 87 (.iconst 0) := ⟨by decide +kernel, rfl⟩
theorem eX11_does_87 : zd 1 cX11_does 87 88 (.ior) := ⟨by decide +kernel, rfl⟩
theorem eX11_does_88 : zd 2 cX11_does 88 90 (.iload 5) := ⟨by decide +kernel, rfl⟩
theorem eX11_does_90 : zdi cX11_does 90 93 102 (.ifCond .eq) := ⟨12, by decide +kernel, rfl, by decide⟩
theorem eX11_does_93 : zd 1 cX11_does 93 94 (.iload_n 1) := ⟨by decide +kernel, rfl⟩
theorem eX11_does_94 : zdi cX11_does 94 97 102 (.ifCond .le) := ⟨8, by decide +kernel, rfl, by decide⟩
theorem eX11_does_97 : zd 2 cX11_does 97 99 (.bipush 8) := ⟨by decide +kernel, rfl⟩
theorem eX11_does_99 : zdi cX11_does 99 102 103 (.goto) := ⟨4, by decide +kernel, rfl, by decide⟩
theorem eX11_does_102 : zd 1 cX11_does 102 103 (.iconst 0) := ⟨by decide +kernel, rfl⟩
theorem eX11_does_103 : zd 1 cX11_does 103 104 (.ior) := ⟨by decide +kernel, rfl⟩
theorem eX11_does_104 : zd 2 cX11_does 104 106 (.iload 5) := ⟨by decide +kernel, rfl⟩
theorem eX11_does_106 : zdi cX11_does 106 109 118 (.ifCond .eq) := ⟨12, by decide +kernel, rfl, by decide⟩
theorem eX11_does_109 : zd 1 cX11_does 109 110 (.iload_n 1) := ⟨by decide +kernel, rfl⟩
theorem eX11_does_110 : zdi cX11_does 110 113 118 (.ifCond .ge) := ⟨8, by decide +kernel, rfl, by decide⟩
theorem eX11_does_113 : zd 2 cX11_does 113 115 (.bipush 16) := ⟨by decide +kernel, rfl⟩
theorem eX11_does_115 : zdi cX11_does 115 118 119 (.goto) := ⟨4, by decide +kernel, rfl, by decide⟩
theorem eX11_does_118 : zd 1 cX11_does 118 119 (.iconst 0) := ⟨by decide +kernel, rfl⟩
theorem eX11_does_119 : zd 1 cX11_does 119 120 (.ior) := ⟨by decide +kernel, rfl⟩
theorem eX11_does_120 : zd 1 cX11_does 120 121 (.ireturn) := ⟨by decide +kernel, rfl⟩
theorem MX11_198 : zlV RX11 198 yX11_isPost cX11_isPost 2 ((Option.some FieldType.boolean)) 1 := ⟨q1272, q1274, qs37, q12, q1275, by decide, by decide, by decide +kernel⟩
theorem MX11_323 : zlS RX11 323 yX11_isPlace cX11_isPlace 1 ((Option.some FieldType.boolean)) 1 := ⟨q1403, q1404, q12, q1405, by decide, by decide, by decide +kernel⟩
noncomputable def f_Mo_does (v0 : tMo) (p1 : Int32) (p2 : Int32) : Option (Int32) := (if (f_Mo_isPost v0 p2) = 0 then (some (-1000000001)) else (if (f_Mo_isPlace p1) = 0 then (some (-1000000002)) else (if inb p2 12 = true then (zlet (((gMo_postX v0) (ix p2)).toInt64 - (f_Mo_along v0 p1)) (fun (z6 : Int64) => (zlet (if (f_Mo_offOf v0 p1) ≤ 0 then 0 else 1) (fun (w7 : Int32) => (zlet (if z6 ≤ 0 then (if 0 ≤ z6 then 0 else 2) else 1) (fun (w10 : Int32) => (zlet (if w7 = 0 then 0 else 4) (fun (w14 : Int32) => (zlet (if w7 = 0 then 0 else (if p1 ≤ 0 then 0 else 8)) (fun (w17 : Int32) => (if w7 = 0 then (some (((w10 ||| w14) ||| w17) ||| 0)) else (if 0 ≤ p1 then (some (((w10 ||| w14) ||| w17) ||| 0)) else (some (((w10 ||| w14) ||| w17) ||| 16)))))))))))))) else none)))
abbrev rm_Mo_does : Room := { frames := 3, cells := 0, slots := 0, locals := 65 }
set_option maxHeartbeats 4000000 in
set_option maxRecDepth 100000 in
theorem c_Mo_does (l : Launch) (g : zGl) (a0 : Nat → Nat) (o0 : Nat) (v0 : tMo) (p1 : Int32) (p2 : Int32) (out : Int32) (hf : f_Mo_does v0 p1 p2 = some out) : zMi l yX11_does cX11_does 7 rm_Mo_does g [.ref (a0 o0), .int p1, .int p2] (W_Mo g a0 o0 (gMo_ints v0) (gMo_told v0) (gMo_postX v0) (gMo_postStrong v0) (gMo_atRow v0) (gMo_heights v0) (gMo_ship v0) (gMo_lines v0) (gMo_text v0) (gMo_said v0) (gMo_readTold v0) (gMo_readX v0) (gMo_readStrong v0) (gMo_readRow v0) (gMo_parting v0) (gMo_wasShip v0) (gMo_wasLines v0) (gMo_worst v0) (gMo_logRow v0) (gMo_images v0) (gMo_isKept v0)) out (W_Mo g a0 o0 (gMo_ints v0) (gMo_told v0) (gMo_postX v0) (gMo_postStrong v0) (gMo_atRow v0) (gMo_heights v0) (gMo_ship v0) (gMo_lines v0) (gMo_text v0) (gMo_said v0) (gMo_readTold v0) (gMo_readX v0) (gMo_readStrong v0) (gMo_readRow v0) (gMo_parting v0) (gMo_wasShip v0) (gMo_wasLines v0) (gMo_worst v0) (gMo_logRow v0) (gMo_images v0) (gMo_isKept v0)) := by
  refine zMi_of (lv := [(0, .ref (a0 o0)), (1, .int p1), (2, .int p2)]) (by decide) (Nat.le_of_ble_eq_true rfl) rfl (fun x hl hg C hret => ?_)
  subst hl; subst hg
  rw [f_Mo_does] at hf
  refine r_aload_n C eX11_does_0 0 rfl rfl ?_
  refine r_iload_n C eX11_does_1 2 rfl rfl ?_
  refine r_V_z (ws' := W_Mo (z_g x) a0 o0 (gMo_ints v0) (gMo_told v0) (gMo_postX v0) (gMo_postStrong v0) (gMo_atRow v0) (gMo_heights v0) (gMo_ship v0) (gMo_lines v0) (gMo_text v0) (gMo_said v0) (gMo_readTold v0) (gMo_readX v0) (gMo_readStrong v0) (gMo_readRow v0) (gMo_parting v0) (gMo_wasShip v0) (gMo_wasLines v0) (gMo_worst v0) (gMo_logRow v0) (gMo_images v0) (gMo_isKept v0)) C (c_Mo_isPost (z_l x) (z_g x) a0 o0 v0 p2 _ rfl) eX11_does_2 MX11_198 ⟨0, 11, _, _, rfl, rfl, rfl⟩ [0, 1, 2, 3, 4, 5, 6, 7, 8, 9, 10, 11, 12, 13, 14, 15, 16, 17, 18, 19] rfl rfl rfl rfl [] rfl trivial 20 rfl rfl rfl rfl rfl rfl (fun zb1 => ?_)
  refine r_if_ne C eX11_does_5 (fun c2 => ?_) (fun c2 => ?_)
  · rw [if_neg c2] at hf
    refine r_iload_n C eX11_does_11 1 rfl rfl ?_
    refine r_S_z (ws' := W_Mo (z_g x) a0 o0 (gMo_ints v0) (gMo_told v0) (gMo_postX v0) (gMo_postStrong v0) (gMo_atRow v0) (gMo_heights v0) (gMo_ship v0) (gMo_lines v0) (gMo_text v0) (gMo_said v0) (gMo_readTold v0) (gMo_readX v0) (gMo_readStrong v0) (gMo_readRow v0) (gMo_parting v0) (gMo_wasShip v0) (gMo_wasLines v0) (gMo_worst v0) (gMo_logRow v0) (gMo_images v0) (gMo_isKept v0)) C (c_Mo_isPlace (z_l x) (z_g x)  p1 _ rfl) eX11_does_12 MX11_323 [] rfl rfl rfl rfl [0, 1, 2, 3, 4, 5, 6, 7, 8, 9, 10, 11, 12, 13, 14, 15, 16, 17, 18, 19] rfl ⟨rfl, rfl, rfl, rfl, rfl, rfl, rfl, rfl, rfl, rfl, rfl, rfl, rfl, rfl, rfl, rfl, rfl, rfl, rfl, rfl, trivial⟩ 20 rfl rfl rfl rfl rfl rfl (fun zb3 => ?_)
    refine r_if_ne C eX11_does_15 (fun c4 => ?_) (fun c4 => ?_)
    · rw [if_neg c4] at hf
      refine r_aload_n C eX11_does_21 0 rfl rfl ?_
      refine r_get (v := .ref (a0 (o0 + 2))) C eX11_does_22 FX11_13 0 rfl rfl ?_
      refine r_iload_n C eX11_does_25 2 rfl rfl ?_
      obtain ⟨hb5, hf⟩ := zchk hf
      refine r_iald C eX11_does_26 2 rfl (inb_in hb5) ((gMo_postX v0) (ix p2)) rfl ?_
      refine r_i2l C eX11_does_27 ?_
      refine r_aload_n C eX11_does_28 0 rfl rfl ?_
      refine r_iload_n C eX11_does_29 1 rfl rfl ?_
      refine r_V_l (ws' := W_Mo (z_g x) a0 o0 (gMo_ints v0) (gMo_told v0) (gMo_postX v0) (gMo_postStrong v0) (gMo_atRow v0) (gMo_heights v0) (gMo_ship v0) (gMo_lines v0) (gMo_text v0) (gMo_said v0) (gMo_readTold v0) (gMo_readX v0) (gMo_readStrong v0) (gMo_readRow v0) (gMo_parting v0) (gMo_wasShip v0) (gMo_wasLines v0) (gMo_worst v0) (gMo_logRow v0) (gMo_images v0) (gMo_isKept v0)) C (c_Mo_along (z_l x) (z_g x) a0 o0 v0 p1 _ rfl) eX11_does_30 MX11_218 ⟨0, 11, _, _, rfl, rfl, rfl⟩ [0, 1, 2, 3, 4, 5, 6, 7, 8, 9, 10, 11, 12, 13, 14, 15, 16, 17, 18, 19] rfl rfl rfl rfl [] rfl trivial 20 rfl rfl rfl rfl rfl rfl ?_
      refine r_lsub C eX11_does_33 ?_
      obtain ⟨z6, hz6, hf⟩ := zlet_of hf
      refine r_naml hz6 ?_
      refine r_lstore_n C [(3, .long z6), (0, .ref (a0 o0)), (1, .int p1), (2, .int p2)] eX11_does_34 rfl (by decide) rfl ?_
      refine r_aload_n C eX11_does_35 1 rfl rfl ?_
      refine r_iload_n C eX11_does_36 2 rfl rfl ?_
      refine r_V_l (ws' := W_Mo (z_g x) a0 o0 (gMo_ints v0) (gMo_told v0) (gMo_postX v0) (gMo_postStrong v0) (gMo_atRow v0) (gMo_heights v0) (gMo_ship v0) (gMo_lines v0) (gMo_text v0) (gMo_said v0) (gMo_readTold v0) (gMo_readX v0) (gMo_readStrong v0) (gMo_readRow v0) (gMo_parting v0) (gMo_wasShip v0) (gMo_wasLines v0) (gMo_worst v0) (gMo_logRow v0) (gMo_images v0) (gMo_isKept v0)) C (c_Mo_offOf (z_l x) (z_g x) a0 o0 v0 p1 _ rfl) eX11_does_37 MX11_221 ⟨0, 11, _, _, rfl, rfl, rfl⟩ [0, 1, 2, 3, 4, 5, 6, 7, 8, 9, 10, 11, 12, 13, 14, 15, 16, 17, 18, 19] rfl rfl rfl rfl [] rfl trivial 20 rfl rfl rfl rfl rfl rfl ?_
      refine r_lconst C (v := 0) eX11_does_40 (by decide) ?_
      obtain ⟨w7, hw7, hf⟩ := zlet_of hf
      have J8 : vV x 7 0 0 (W_Mo (z_g x) a0 o0 (gMo_ints v0) (gMo_told v0) (gMo_postX v0) (gMo_postStrong v0) (gMo_atRow v0) (gMo_heights v0) (gMo_ship v0) (gMo_lines v0) (gMo_text v0) (gMo_said v0) (gMo_readTold v0) (gMo_readX v0) (gMo_readStrong v0) (gMo_readRow v0) (gMo_parting v0) (gMo_wasShip v0) (gMo_wasLines v0) (gMo_worst v0) (gMo_logRow v0) (gMo_images v0) (gMo_isKept v0)) 50 [(1, .int p1), (3, .long z6)] [.int w7] := by
        refine r_istore C [(5, .int w7), (1, .int p1), (3, .long z6)] eX11_does_50 (by decide) rfl ?_
        refine r_lload_n C eX11_does_52 2 rfl rfl ?_
        refine r_lconst C (v := 0) eX11_does_53 (by decide) ?_
        obtain ⟨w10, hw10, hf⟩ := zlet_of hf
        have J11 : vV x 7 0 0 (W_Mo (z_g x) a0 o0 (gMo_ints v0) (gMo_told v0) (gMo_postX v0) (gMo_postStrong v0) (gMo_atRow v0) (gMo_heights v0) (gMo_ship v0) (gMo_lines v0) (gMo_text v0) (gMo_said v0) (gMo_readTold v0) (gMo_readX v0) (gMo_readStrong v0) (gMo_readRow v0) (gMo_parting v0) (gMo_wasShip v0) (gMo_wasLines v0) (gMo_worst v0) (gMo_logRow v0) (gMo_images v0) (gMo_isKept v0)) 73 [(1, .int p1), (5, .int w7)] [.int w10] := by
          refine r_istore C [(6, .int w10), (1, .int p1), (5, .int w7)] eX11_does_73 (by decide) rfl ?_
          refine r_iload C eX11_does_75 0 rfl ?_
          refine r_iload C eX11_does_77 2 rfl ?_
          obtain ⟨w14, hw14, hf⟩ := zlet_of hf
          have J15 : vV x 7 0 0 (W_Mo (z_g x) a0 o0 (gMo_ints v0) (gMo_told v0) (gMo_postX v0) (gMo_postStrong v0) (gMo_atRow v0) (gMo_heights v0) (gMo_ship v0) (gMo_lines v0) (gMo_text v0) (gMo_said v0) (gMo_readTold v0) (gMo_readX v0) (gMo_readStrong v0) (gMo_readRow v0) (gMo_parting v0) (gMo_wasShip v0) (gMo_wasLines v0) (gMo_worst v0) (gMo_logRow v0) (gMo_images v0) (gMo_isKept v0)) 87 [(1, .int p1), (5, .int w7)] [.int w14, .int w10] := by
            refine r_ior C eX11_does_87 ?_
            refine r_iload C eX11_does_88 1 rfl ?_
            obtain ⟨w17, hw17, hf⟩ := zlet_of hf
            have J18 : vV x 7 0 0 (W_Mo (z_g x) a0 o0 (gMo_ints v0) (gMo_told v0) (gMo_postX v0) (gMo_postStrong v0) (gMo_atRow v0) (gMo_heights v0) (gMo_ship v0) (gMo_lines v0) (gMo_text v0) (gMo_said v0) (gMo_readTold v0) (gMo_readX v0) (gMo_readStrong v0) (gMo_readRow v0) (gMo_parting v0) (gMo_wasShip v0) (gMo_wasLines v0) (gMo_worst v0) (gMo_logRow v0) (gMo_images v0) (gMo_isKept v0)) 103 [(1, .int p1), (5, .int w7)] [.int w17, .int (w10 ||| w14)] := by
              refine r_ior C eX11_does_103 ?_
              refine r_iload C eX11_does_104 1 rfl ?_
              refine r_if_eq C eX11_does_106 (fun c21 => ?_) (fun c21 => ?_)
              · rw [if_pos c21] at hf
                refine r_iconst C (v := 0) eX11_does_118 (by decide) ?_
                refine r_ior C eX11_does_119 ?_
                obtain rfl := Option.some.inj (show some ((((w10 ||| w14) ||| w17) ||| 0) : Int32) = some _ from hf)
                exact hret _ _ _ eX11_does_120
              · rw [if_neg c21] at hf
                refine r_iload_n C eX11_does_109 0 rfl rfl ?_
                refine r_if_ge C eX11_does_110 (fun c22 => ?_) (fun c22 => ?_)
                · rw [if_pos c22] at hf
                  refine r_iconst C (v := 0) eX11_does_118 (by decide) ?_
                  refine r_ior C eX11_does_119 ?_
                  obtain rfl := Option.some.inj (show some ((((w10 ||| w14) ||| w17) ||| 0) : Int32) = some _ from hf)
                  exact hret _ _ _ eX11_does_120
                · rw [if_neg c22] at hf
                  refine r_bipush C (v := 16) eX11_does_113 (by decide) ?_
                  refine r_goto C eX11_does_115 ?_
                  refine r_ior C eX11_does_119 ?_
                  obtain rfl := Option.some.inj (show some ((((w10 ||| w14) ||| w17) ||| 16) : Int32) = some _ from hf)
                  exact hret _ _ _ eX11_does_120
            refine r_if_eq C eX11_does_90 (fun c19 => ?_) (fun c19 => ?_)
            · rw [if_pos c19] at hw17
              refine r_iconst C (v := 0) eX11_does_102 (by decide) ?_
              subst hw17
              exact J18 
            · rw [if_neg c19] at hw17
              refine r_iload_n C eX11_does_93 0 rfl rfl ?_
              refine r_if_le C eX11_does_94 (fun c20 => ?_) (fun c20 => ?_)
              · rw [if_pos c20] at hw17
                refine r_iconst C (v := 0) eX11_does_102 (by decide) ?_
                subst hw17
                exact J18 
              · rw [if_neg c20] at hw17
                refine r_bipush C (v := 8) eX11_does_97 (by decide) ?_
                refine r_goto C eX11_does_99 ?_
                subst hw17
                exact J18 
          refine r_if_eq C eX11_does_79 (fun c16 => ?_) (fun c16 => ?_)
          · rw [if_pos c16] at hw14
            refine r_iconst C (v := 0) eX11_does_86 (by decide) ?_
            subst hw14
            refine r_sub (lv' := [(1, .int p1), (5, .int w7)]) [1, 2] rfl ?_
            exact J15 
          · rw [if_neg c16] at hw14
            refine r_iconst C (v := 4) eX11_does_82 (by decide) ?_
            refine r_goto C eX11_does_83 ?_
            subst hw14
            refine r_sub (lv' := [(1, .int p1), (5, .int w7)]) [1, 2] rfl ?_
            exact J15 
        refine r_lcmp_le C eX11_does_54 eX11_does_55 (fun c12 => ?_) (fun c12 => ?_)
        · rw [if_pos c12] at hw10
          refine r_lload_n C eX11_does_62 2 rfl rfl ?_
          refine r_lconst C (v := 0) eX11_does_63 (by decide) ?_
          refine r_lcmp_ge C eX11_does_64 eX11_does_65 (fun c13 => ?_) (fun c13 => ?_)
          · rw [if_pos c13] at hw10
            refine r_iconst C (v := 0) eX11_does_72 (by decide) ?_
            subst hw10
            refine r_sub (lv' := [(1, .int p1), (5, .int w7)]) [1, 0] rfl ?_
            exact J11 
          · rw [if_neg c13] at hw10
            refine r_iconst C (v := 2) eX11_does_68 (by decide) ?_
            refine r_goto C eX11_does_69 ?_
            subst hw10
            refine r_sub (lv' := [(1, .int p1), (5, .int w7)]) [1, 0] rfl ?_
            exact J11 
        · rw [if_neg c12] at hw10
          refine r_iconst C (v := 1) eX11_does_58 (by decide) ?_
          refine r_goto C eX11_does_59 ?_
          subst hw10
          refine r_sub (lv' := [(1, .int p1), (5, .int w7)]) [1, 0] rfl ?_
          exact J11 
      refine r_lcmp_le C eX11_does_41 eX11_does_42 (fun c9 => ?_) (fun c9 => ?_)
      · rw [if_pos c9] at hw7
        refine r_iconst C (v := 0) eX11_does_49 (by decide) ?_
        subst hw7
        refine r_sub (lv' := [(1, .int p1), (3, .long z6)]) [2, 0] rfl ?_
        exact J8 
      · rw [if_neg c9] at hw7
        refine r_iconst C (v := 1) eX11_does_45 (by decide) ?_
        refine r_goto C eX11_does_46 ?_
        subst hw7
        refine r_sub (lv' := [(1, .int p1), (3, .long z6)]) [2, 0] rfl ?_
        exact J8 
    · rw [if_pos c4] at hf
      refine r_ldc C (v := (-1000000002)) eX11_does_18 q1183 ?_
      obtain rfl := Option.some.inj (show some ((-1000000002) : Int32) = some _ from hf)
      exact hret _ _ _ eX11_does_20
  · rw [if_pos c2] at hf
    refine r_ldc C (v := (-1000000001)) eX11_does_8 q1276 ?_
    obtain rfl := Option.some.inj (show some ((-1000000001) : Int32) = some _ from hf)
    exact hret _ _ _ eX11_does_10
theorem eX11_draw_0 : zd 1 cX11_draw 0 1 (.aload_n 0) := ⟨by decide +kernel, rfl⟩
theorem eX11_draw_1 : zd 1 cX11_draw 1 2 (.aload_n 0) := ⟨by decide +kernel, rfl⟩
theorem eX11_draw_2 : zd 3 cX11_draw 2 5 (.getfield 331) := ⟨by decide +kernel, rfl⟩
theorem eX11_draw_5 : zd 1 cX11_draw 5 6 (.i2l) := ⟨by decide +kernel, rfl⟩
theorem eX11_draw_6 : zd 3 cX11_draw 6 9 (.ldc2_w 334) := ⟨by decide +kernel, rfl⟩
theorem eX11_draw_9 : zd 1 cX11_draw 9 10 (.lmul) := ⟨by decide +kernel, rfl⟩
theorem eX11_draw_10 : zd 3 cX11_draw 10 13 (.ldc2_w 336) := ⟨by decide +kernel, rfl⟩
theorem eX11_draw_13 : zd 1 cX11_draw 13 14 (.ladd) := ⟨by decide +kernel, rfl⟩
theorem eX11_draw_14 : zd 3 cX11_draw 14 17 (.ldc2_w 338) := ⟨by decide +kernel, rfl⟩
theorem eX11_draw_17 : zd 1 cX11_draw 17 18 (.lrem) := ⟨by decide +kernel, rfl⟩
theorem eX11_draw_18 : zd 1 cX11_draw 18 19 (.l2i) := ⟨by decide +kernel, rfl⟩
theorem eX11_draw_19 : zd 3 cX11_draw 19 22 (.putfield 331) := ⟨by decide +kernel, rfl⟩
theorem eX11_draw_22 : zd 1 cX11_draw 22 23 (.aload_n 0) := ⟨by decide +kernel, rfl⟩
theorem eX11_draw_23 : zd 3 cX11_draw 23 26 (.getfield 331) := ⟨by decide +kernel, rfl⟩
theorem eX11_draw_26 : zd 3 cX11_draw 26 29 (.ldc_w 340) := ⟨by decide +kernel, rfl⟩
theorem eX11_draw_29 : zd 1 cX11_draw 29 30 (.idiv) := ⟨by decide +kernel, rfl⟩
theorem eX11_draw_30 : zd 1 cX11_draw 30 31 (.iload_n 1) := ⟨by decide +kernel, rfl⟩
theorem eX11_draw_31 : zd 1 cX11_draw 31 32 (.irem) := ⟨by decide +kernel, rfl⟩
theorem eX11_draw_32 : zd 1 cX11_draw 32 33 (.ireturn) := ⟨by decide +kernel, rfl⟩
theorem FX11_331 : zlF RX11 331 11 26 := ⟨(RX11, TX11, 34), rfl, by decide, q1097, zin11⟩
theorem PX11_331 : zlP RX11 331 11 26 .int := ⟨(RX11, TX11, 34), tyX11, rfl, by decide, q1097, zin11, tyX11_ok, nmX11, rfl, by decide +kernel⟩
noncomputable def f_Mo_draw (v0 : tMo) (p1 : Int32) : Option (Int32 × (Nat → Int32)) := (zlet (((((gMo_ints v0) 26).toInt64 * 1103515245) + 12345) - ((((gMo_ints v0) 26).toInt64 * 1103515245) + 12345) / 2147483648 * 2147483648).toInt32 (fun (z1 : Int32) => (if p1 = 0 then none else (some (((z1 / 65536) - (z1 / 65536) / p1 * p1), (upd (gMo_ints v0) 26 z1))))))
abbrev rm_Mo_draw : Room := { frames := 0, cells := 0, slots := 0, locals := 0 }
set_option maxHeartbeats 4000000 in
set_option maxRecDepth 100000 in
theorem c_Mo_draw (l : Launch) (g : zGl) (a0 : Nat → Nat) (o0 : Nat) (v0 : tMo) (p1 : Int32) (out : Int32 × (Nat → Int32)) (hf : f_Mo_draw v0 p1 = some out) : zMi l yX11_draw cX11_draw 2 rm_Mo_draw g [.ref (a0 o0), .int p1] (W_Mo g a0 o0 (gMo_ints v0) (gMo_told v0) (gMo_postX v0) (gMo_postStrong v0) (gMo_atRow v0) (gMo_heights v0) (gMo_ship v0) (gMo_lines v0) (gMo_text v0) (gMo_said v0) (gMo_readTold v0) (gMo_readX v0) (gMo_readStrong v0) (gMo_readRow v0) (gMo_parting v0) (gMo_wasShip v0) (gMo_wasLines v0) (gMo_worst v0) (gMo_logRow v0) (gMo_images v0) (gMo_isKept v0)) (out.1) (W_Mo g a0 o0 (out.2) (gMo_told v0) (gMo_postX v0) (gMo_postStrong v0) (gMo_atRow v0) (gMo_heights v0) (gMo_ship v0) (gMo_lines v0) (gMo_text v0) (gMo_said v0) (gMo_readTold v0) (gMo_readX v0) (gMo_readStrong v0) (gMo_readRow v0) (gMo_parting v0) (gMo_wasShip v0) (gMo_wasLines v0) (gMo_worst v0) (gMo_logRow v0) (gMo_images v0) (gMo_isKept v0)) := by
  refine zMi_of (lv := [(0, .ref (a0 o0)), (1, .int p1)]) (by decide) (Nat.le_of_ble_eq_true rfl) rfl (fun x hl hg C hret => ?_)
  subst hl; subst hg
  rw [f_Mo_draw] at hf
  refine r_aload_n C eX11_draw_0 0 rfl rfl ?_
  refine r_aload_n C eX11_draw_1 0 rfl rfl ?_
  refine r_get (v := .int ((gMo_ints v0) 26)) C eX11_draw_2 FX11_331 0 rfl rfl ?_
  refine r_i2l C eX11_draw_5 ?_
  refine r_ldc2 C (v := 1103515245) eX11_draw_6 q1420 ?_
  refine r_lmul C eX11_draw_9 ?_
  refine r_ldc2 C (v := 12345) eX11_draw_10 q1421 ?_
  refine r_ladd C eX11_draw_13 ?_
  refine r_ldc2 C (v := 2147483648) eX11_draw_14 q1422 ?_
  refine r_lrem C eX11_draw_17 (by decide) ?_
  refine r_l2i C eX11_draw_18 ?_
  obtain ⟨z1, hz1, hf⟩ := zlet_of hf
  refine r_nami hz1 ?_
  refine r_put (ws' := W_Mo (z_g x) a0 o0 (upd (gMo_ints v0) 26 z1) (gMo_told v0) (gMo_postX v0) (gMo_postStrong v0) (gMo_atRow v0) (gMo_heights v0) (gMo_ship v0) (gMo_lines v0) (gMo_text v0) (gMo_said v0) (gMo_readTold v0) (gMo_readX v0) (gMo_readStrong v0) (gMo_readRow v0) (gMo_parting v0) (gMo_wasShip v0) (gMo_wasLines v0) (gMo_worst v0) (gMo_logRow v0) (gMo_images v0) (gMo_isKept v0)) C eX11_draw_19 PX11_331 0 rfl rfl rfl (Nat.le_of_ble_eq_true rfl) rfl ?_
  refine r_aload_n C eX11_draw_22 0 rfl rfl ?_
  refine r_get (v := .int z1) C eX11_draw_23 FX11_331 0 rfl rfl ?_
  refine r_ldc_w C (v := 65536) eX11_draw_26 q1423 ?_
  refine r_idiv C eX11_draw_29 (by decide) ?_
  refine r_iload_n C eX11_draw_30 1 rfl rfl ?_
  obtain ⟨hz2, hf⟩ := zdv hf
  refine r_irem C eX11_draw_31 hz2 ?_
  obtain rfl := Option.some.inj (show some ((((z1 / 65536) - (z1 / 65536) / p1 * p1), (upd (gMo_ints v0) 26 z1)) : Int32 × (Nat → Int32)) = some _ from hf)
  exact hret _ _ _ eX11_draw_32
theorem eX11_fails_0 : zd 1 cX11_fails 0 1 (.aload_n 0) := ⟨by decide +kernel, rfl⟩
theorem eX11_fails_1 : zd 1 cX11_fails 1 2 (.iload_n 2) := ⟨by decide +kernel, rfl⟩
theorem eX11_fails_2 : zd 3 cX11_fails 2 5 (.putfield 35) := ⟨by decide +kernel, rfl⟩
theorem eX11_fails_5 : zd 1 cX11_fails 5 6 (.iload_n 1) := ⟨by decide +kernel, rfl⟩
theorem eX11_fails_6 : zd 1 cX11_fails 6 7 (.ireturn) := ⟨by decide +kernel, rfl⟩
theorem PX11_35 : zlP RX11 35 11 12 .int := ⟨(RX11, TX11, 34), tyX11, rfl, by decide, q1083, zin11, tyX11_ok, nmX11, rfl, by decide +kernel⟩
noncomputable def f_Mo_fails (v0 : tMo) (p1 : Int32) (p2 : Int32) : Int32 × (Nat → Int32) := (p1, (upd (gMo_ints v0) 12 p2))
abbrev rm_Mo_fails : Room := { frames := 0, cells := 0, slots := 0, locals := 0 }
set_option maxHeartbeats 4000000 in
set_option maxRecDepth 100000 in
theorem c_Mo_fails (l : Launch) (g : zGl) (a0 : Nat → Nat) (o0 : Nat) (v0 : tMo) (p1 : Int32) (p2 : Int32) (out : Int32 × (Nat → Int32)) (hf : f_Mo_fails v0 p1 p2 = out) : zMi l yX11_fails cX11_fails 3 rm_Mo_fails g [.ref (a0 o0), .int p1, .int p2] (W_Mo g a0 o0 (gMo_ints v0) (gMo_told v0) (gMo_postX v0) (gMo_postStrong v0) (gMo_atRow v0) (gMo_heights v0) (gMo_ship v0) (gMo_lines v0) (gMo_text v0) (gMo_said v0) (gMo_readTold v0) (gMo_readX v0) (gMo_readStrong v0) (gMo_readRow v0) (gMo_parting v0) (gMo_wasShip v0) (gMo_wasLines v0) (gMo_worst v0) (gMo_logRow v0) (gMo_images v0) (gMo_isKept v0)) (out.1) (W_Mo g a0 o0 (out.2) (gMo_told v0) (gMo_postX v0) (gMo_postStrong v0) (gMo_atRow v0) (gMo_heights v0) (gMo_ship v0) (gMo_lines v0) (gMo_text v0) (gMo_said v0) (gMo_readTold v0) (gMo_readX v0) (gMo_readStrong v0) (gMo_readRow v0) (gMo_parting v0) (gMo_wasShip v0) (gMo_wasLines v0) (gMo_worst v0) (gMo_logRow v0) (gMo_images v0) (gMo_isKept v0)) := by
  refine zMi_of (lv := [(0, .ref (a0 o0)), (1, .int p1), (2, .int p2)]) (by decide) (Nat.le_of_ble_eq_true rfl) rfl (fun x hl hg C hret => ?_)
  subst hl; subst hg
  rw [f_Mo_fails] at hf
  refine r_aload_n C eX11_fails_0 0 rfl rfl ?_
  refine r_iload_n C eX11_fails_1 2 rfl rfl ?_
  refine r_put (ws' := W_Mo (z_g x) a0 o0 (upd (gMo_ints v0) 12 p2) (gMo_told v0) (gMo_postX v0) (gMo_postStrong v0) (gMo_atRow v0) (gMo_heights v0) (gMo_ship v0) (gMo_lines v0) (gMo_text v0) (gMo_said v0) (gMo_readTold v0) (gMo_readX v0) (gMo_readStrong v0) (gMo_readRow v0) (gMo_parting v0) (gMo_wasShip v0) (gMo_wasLines v0) (gMo_worst v0) (gMo_logRow v0) (gMo_images v0) (gMo_isKept v0)) C eX11_fails_2 PX11_35 0 rfl rfl rfl (Nat.le_of_ble_eq_true rfl) rfl ?_
  refine r_iload_n C eX11_fails_5 1 rfl rfl ?_
  subst hf
  exact hret _ _ _ eX11_fails_6
theorem eX11_tie_0 : zd 1 cX11_tie 0 1 (.aload_n 0) := ⟨by decide +kernel, rfl⟩
theorem eX11_tie_1 : zd 3 cX11_tie 1 4 (.getfield 29) := ⟨by decide +kernel, rfl⟩
theorem eX11_tie_4 : zd 1 cX11_tie 4 5 (.iconst 4) := ⟨by decide +kernel, rfl⟩
theorem eX11_tie_5 : zd 1 cX11_tie 5 6 (.iload_n 1) := ⟨by decide +kernel, rfl⟩
theorem eX11_tie_6 : zd 1 cX11_tie 6 7 (.imul) := ⟨by decide +kernel, rfl⟩
theorem eX11_tie_7 : zd 1 cX11_tie 7 8 (.iconst 1) := ⟨by decide +kernel, rfl⟩
theorem eX11_tie_8 : zd 1 cX11_tie 8 9 (.iastore) := ⟨by decide +kernel, rfl⟩
theorem eX11_tie_9 : zd 1 cX11_tie 9 10 (.aload_n 0) := ⟨by decide +kernel, rfl⟩
theorem eX11_tie_10 : zd 3 cX11_tie 10 13 (.getfield 29) := ⟨by decide +kernel, rfl⟩
theorem eX11_tie_13 : zd 1 cX11_tie 13 14 (.iconst 4) := ⟨by decide +kernel, rfl⟩
theorem eX11_tie_14 : zd 1 cX11_tie 14 15 (.iload_n 1) := ⟨by decide +kernel, rfl⟩
theorem eX11_tie_15 : zd 1 cX11_tie 15 16 (.imul) := ⟨by decide +kernel, rfl⟩
theorem eX11_tie_16 : zd 1 cX11_tie 16 17 (.iconst 1) := ⟨by decide +kernel, rfl⟩
theorem eX11_tie_17 : zd 1 cX11_tie 17 18 (.iadd) := ⟨by decide +kernel, rfl⟩
theorem eX11_tie_18 : zd 1 cX11_tie 18 19 (.iload_n 2) := ⟨by decide +kernel, rfl⟩
theorem eX11_tie_19 : zd 1 cX11_tie 19 20 (.iastore) := ⟨by decide +kernel, rfl⟩
theorem eX11_tie_20 : zd 1 cX11_tie 20 21 (.aload_n 0) := ⟨by decide +kernel, rfl⟩
theorem eX11_tie_21 : zd 3 cX11_tie 21 24 (.getfield 29) := ⟨by decide +kernel, rfl⟩
theorem eX11_tie_24 : zd 1 cX11_tie 24 25 (.iconst 4) := ⟨by decide +kernel, rfl⟩
theorem eX11_tie_25 : zd 1 cX11_tie 25 26 (.iload_n 1) := ⟨by decide +kernel, rfl⟩
theorem eX11_tie_26 : zd 1 cX11_tie 26 27 (.imul) := ⟨by decide +kernel, rfl⟩
theorem eX11_tie_27 : zd 1 cX11_tie 27 28 (.iconst 2) := ⟨by decide +kernel, rfl⟩
theorem eX11_tie_28 : zd 1 cX11_tie 28 29 (.iadd) := ⟨by decide +kernel, rfl⟩
theorem eX11_tie_29 : zd 1 cX11_tie 29 30 (.iload_n 3) := ⟨by decide +kernel, rfl⟩
theorem eX11_tie_30 : zd 1 cX11_tie 30 31 (.iastore) := ⟨by decide +kernel, rfl⟩
theorem eX11_tie_31 : zd 1 cX11_tie 31 32 (.aload_n 0) := ⟨by decide +kernel, rfl⟩
theorem eX11_tie_32 : zd 3 cX11_tie 32 35 (.getfield 29) := ⟨by decide +kernel, rfl⟩
theorem eX11_tie_35 : zd 1 cX11_tie 35 36 (.iconst 4) := ⟨by decide +kernel, rfl⟩
theorem eX11_tie_36 : zd 1 cX11_tie 36 37 (.iload_n 1) := ⟨by decide +kernel, rfl⟩
theorem eX11_tie_37 : zd 1 cX11_tie 37 38 (.imul) := ⟨by decide +kernel, rfl⟩
theorem eX11_tie_38 : zd 1 cX11_tie 38 39 (.iconst 3) := ⟨by decide +kernel, rfl⟩
theorem eX11_tie_39 : zd 1 cX11_tie 39 40 (.iadd) := ⟨by decide +kernel, rfl⟩
theorem eX11_tie_40 : zd 2 cX11_tie 40 42 (.iload 4) := ⟨by decide +kernel, rfl⟩
theorem eX11_tie_42 : zd 1 cX11_tie 42 43 (.iastore) := ⟨by decide +kernel, rfl⟩
theorem eX11_tie_43 : zd 1 cX11_tie 43 44 (.return_) := ⟨by decide +kernel, rfl⟩
noncomputable def f_Mo_tie (v0 : tMo) (p1 : Int32) (p2 : Int32) (p3 : Int32) (p4 : Int32) : Option ((Nat → Int32)) := (if inb (4 * p1) 24 = true then (if inb ((4 * p1) + 1) 24 = true then (if inb ((4 * p1) + 2) 24 = true then (if inb ((4 * p1) + 3) 24 = true then (some (upd (upd (upd (upd (gMo_lines v0) (ix (4 * p1)) 1) (ix ((4 * p1) + 1)) p2) (ix ((4 * p1) + 2)) p3) (ix ((4 * p1) + 3)) p4)) else none) else none) else none) else none)
abbrev rm_Mo_tie : Room := { frames := 0, cells := 0, slots := 0, locals := 0 }
set_option maxHeartbeats 4000000 in
set_option maxRecDepth 100000 in
theorem c_Mo_tie (l : Launch) (g : zGl) (a0 : Nat → Nat) (o0 : Nat) (v0 : tMo) (p1 : Int32) (p2 : Int32) (p3 : Int32) (p4 : Int32) (out : (Nat → Int32)) (hf : f_Mo_tie v0 p1 p2 p3 p4 = some out) : zMv l yX11_tie cX11_tie 5 rm_Mo_tie g [.ref (a0 o0), .int p1, .int p2, .int p3, .int p4] (W_Mo g a0 o0 (gMo_ints v0) (gMo_told v0) (gMo_postX v0) (gMo_postStrong v0) (gMo_atRow v0) (gMo_heights v0) (gMo_ship v0) (gMo_lines v0) (gMo_text v0) (gMo_said v0) (gMo_readTold v0) (gMo_readX v0) (gMo_readStrong v0) (gMo_readRow v0) (gMo_parting v0) (gMo_wasShip v0) (gMo_wasLines v0) (gMo_worst v0) (gMo_logRow v0) (gMo_images v0) (gMo_isKept v0))  (W_Mo g a0 o0 (gMo_ints v0) (gMo_told v0) (gMo_postX v0) (gMo_postStrong v0) (gMo_atRow v0) (gMo_heights v0) (gMo_ship v0) out (gMo_text v0) (gMo_said v0) (gMo_readTold v0) (gMo_readX v0) (gMo_readStrong v0) (gMo_readRow v0) (gMo_parting v0) (gMo_wasShip v0) (gMo_wasLines v0) (gMo_worst v0) (gMo_logRow v0) (gMo_images v0) (gMo_isKept v0)) := by
  refine zMv_of (lv := [(0, .ref (a0 o0)), (1, .int p1), (2, .int p2), (3, .int p3), (4, .int p4)]) (by decide) (Nat.le_of_ble_eq_true rfl) rfl (fun x hl hg C hret => ?_)
  subst hl; subst hg
  rw [f_Mo_tie] at hf
  refine r_aload_n C eX11_tie_0 0 rfl rfl ?_
  refine r_get (v := .ref (a0 (o0 + 7))) C eX11_tie_1 FX11_29 0 rfl rfl ?_
  refine r_iconst C (v := 4) eX11_tie_4 (by decide) ?_
  refine r_iload_n C eX11_tie_5 1 rfl rfl ?_
  refine r_imul C eX11_tie_6 ?_
  refine r_iconst C (v := 1) eX11_tie_7 (by decide) ?_
  obtain ⟨hb1, hf⟩ := zchk hf
  refine r_iast (ws' := W_Mo (z_g x) a0 o0 (gMo_ints v0) (gMo_told v0) (gMo_postX v0) (gMo_postStrong v0) (gMo_atRow v0) (gMo_heights v0) (gMo_ship v0) (upd (gMo_lines v0) (ix (4 * p1)) 1) (gMo_text v0) (gMo_said v0) (gMo_readTold v0) (gMo_readX v0) (gMo_readStrong v0) (gMo_readRow v0) (gMo_parting v0) (gMo_wasShip v0) (gMo_wasLines v0) (gMo_worst v0) (gMo_logRow v0) (gMo_images v0) (gMo_isKept v0)) C eX11_tie_8 7 rfl (inb_in hb1) rfl ?_
  refine r_aload_n C eX11_tie_9 0 rfl rfl ?_
  refine r_get (v := .ref (a0 (o0 + 7))) C eX11_tie_10 FX11_29 0 rfl rfl ?_
  refine r_iconst C (v := 4) eX11_tie_13 (by decide) ?_
  refine r_iload_n C eX11_tie_14 1 rfl rfl ?_
  refine r_imul C eX11_tie_15 ?_
  refine r_iconst C (v := 1) eX11_tie_16 (by decide) ?_
  refine r_iadd C eX11_tie_17 ?_
  refine r_iload_n C eX11_tie_18 2 rfl rfl ?_
  obtain ⟨hb2, hf⟩ := zchk hf
  refine r_iast (ws' := W_Mo (z_g x) a0 o0 (gMo_ints v0) (gMo_told v0) (gMo_postX v0) (gMo_postStrong v0) (gMo_atRow v0) (gMo_heights v0) (gMo_ship v0) (upd (upd (gMo_lines v0) (ix (4 * p1)) 1) (ix ((4 * p1) + 1)) p2) (gMo_text v0) (gMo_said v0) (gMo_readTold v0) (gMo_readX v0) (gMo_readStrong v0) (gMo_readRow v0) (gMo_parting v0) (gMo_wasShip v0) (gMo_wasLines v0) (gMo_worst v0) (gMo_logRow v0) (gMo_images v0) (gMo_isKept v0)) C eX11_tie_19 7 rfl (inb_in hb2) rfl ?_
  refine r_aload_n C eX11_tie_20 0 rfl rfl ?_
  refine r_get (v := .ref (a0 (o0 + 7))) C eX11_tie_21 FX11_29 0 rfl rfl ?_
  refine r_iconst C (v := 4) eX11_tie_24 (by decide) ?_
  refine r_iload_n C eX11_tie_25 1 rfl rfl ?_
  refine r_imul C eX11_tie_26 ?_
  refine r_iconst C (v := 2) eX11_tie_27 (by decide) ?_
  refine r_iadd C eX11_tie_28 ?_
  refine r_iload_n C eX11_tie_29 3 rfl rfl ?_
  obtain ⟨hb3, hf⟩ := zchk hf
  refine r_iast (ws' := W_Mo (z_g x) a0 o0 (gMo_ints v0) (gMo_told v0) (gMo_postX v0) (gMo_postStrong v0) (gMo_atRow v0) (gMo_heights v0) (gMo_ship v0) (upd (upd (upd (gMo_lines v0) (ix (4 * p1)) 1) (ix ((4 * p1) + 1)) p2) (ix ((4 * p1) + 2)) p3) (gMo_text v0) (gMo_said v0) (gMo_readTold v0) (gMo_readX v0) (gMo_readStrong v0) (gMo_readRow v0) (gMo_parting v0) (gMo_wasShip v0) (gMo_wasLines v0) (gMo_worst v0) (gMo_logRow v0) (gMo_images v0) (gMo_isKept v0)) C eX11_tie_30 7 rfl (inb_in hb3) rfl ?_
  refine r_aload_n C eX11_tie_31 0 rfl rfl ?_
  refine r_get (v := .ref (a0 (o0 + 7))) C eX11_tie_32 FX11_29 0 rfl rfl ?_
  refine r_iconst C (v := 4) eX11_tie_35 (by decide) ?_
  refine r_iload_n C eX11_tie_36 1 rfl rfl ?_
  refine r_imul C eX11_tie_37 ?_
  refine r_iconst C (v := 3) eX11_tie_38 (by decide) ?_
  refine r_iadd C eX11_tie_39 ?_
  refine r_iload C eX11_tie_40 4 rfl ?_
  obtain ⟨hb4, hf⟩ := zchk hf
  refine r_iast (ws' := W_Mo (z_g x) a0 o0 (gMo_ints v0) (gMo_told v0) (gMo_postX v0) (gMo_postStrong v0) (gMo_atRow v0) (gMo_heights v0) (gMo_ship v0) (upd (upd (upd (upd (gMo_lines v0) (ix (4 * p1)) 1) (ix ((4 * p1) + 1)) p2) (ix ((4 * p1) + 2)) p3) (ix ((4 * p1) + 3)) p4) (gMo_text v0) (gMo_said v0) (gMo_readTold v0) (gMo_readX v0) (gMo_readStrong v0) (gMo_readRow v0) (gMo_parting v0) (gMo_wasShip v0) (gMo_wasLines v0) (gMo_worst v0) (gMo_logRow v0) (gMo_images v0) (gMo_isKept v0)) C eX11_tie_42 7 rfl (inb_in hb4) rfl ?_
  obtain rfl := Option.some.inj (show some ((upd (upd (upd (upd (gMo_lines v0) (ix (4 * p1)) 1) (ix ((4 * p1) + 1)) p2) (ix ((4 * p1) + 2)) p3) (ix ((4 * p1) + 3)) p4) : (Nat → Int32)) = some _ from hf)
  exact hret _ _ _ eX11_tie_43
theorem eX11_fast_0 : zd 1 cX11_fast 0 1 (.iload_n 1) := ⟨by decide +kernel, rfl⟩
theorem eX11_fast_1 : zd 1 cX11_fast 1 2 (.i2l) := ⟨by decide +kernel, rfl⟩
theorem eX11_fast_2 : zd 1 cX11_fast 2 3 (.lconst 0) := ⟨by decide +kernel, rfl⟩
theorem eX11_fast_3 : zd 3 cX11_fast 3 6 (.ldc2_w 228) := ⟨by decide +kernel, rfl⟩
theorem eX11_fast_6 : zd 3 cX11_fast 6 9 (.invokestatic 86) := ⟨by decide +kernel, rfl⟩
theorem eX11_fast_9 : zdi cX11_fast 9 12 20 (.ifCond .eq) := ⟨11, by decide +kernel, rfl, by decide⟩
theorem eX11_fast_12 : zd 1 cX11_fast 12 13 (.aload_n 0) := ⟨by decide +kernel, rfl⟩
theorem eX11_fast_13 : zd 1 cX11_fast 13 14 (.iload_n 3) := ⟨by decide +kernel, rfl⟩
theorem eX11_fast_14 : zd 3 cX11_fast 14 17 (.invokevirtual 198) := ⟨by decide +kernel, rfl⟩
theorem eX11_fast_17 : zdi cX11_fast 17 20 23 (.ifCond .ne) := ⟨6, by decide +kernel, rfl, by decide⟩
theorem eX11_fast_20 : zd 2 cX11_fast 20 22 (.ldc 202) := ⟨by decide +kernel, rfl⟩
theorem eX11_fast_22 : zd 1 cX11_fast 22 23 (.ireturn) := ⟨by decide +kernel, rfl⟩
theorem eX11_fast_23 : zd 1 cX11_fast 23 24 (.iload_n 2) := ⟨by decide +kernel, rfl⟩
theorem eX11_fast_24 : zd 3 cX11_fast 24 27 (.invokestatic 323) := ⟨by decide +kernel, rfl⟩
theorem eX11_fast_27 : zdi cX11_fast 27 30 49 (.ifCond .eq) := ⟨22, by decide +kernel, rfl, by decide⟩
theorem eX11_fast_30 : zd 2 cX11_fast 30 32 (.iload 4) := ⟨by decide +kernel, rfl⟩
theorem eX11_fast_32 : zd 1 cX11_fast 32 33 (.iconst (-1)) := ⟨by decide +kernel, rfl⟩
theorem eX11_fast_33 : zdi cX11_fast 33 36 52 (.if_icmp .eq) := ⟨19, by decide +kernel, rfl, by decide⟩
theorem eX11_fast_36 : zd 2 cX11_fast 36 38 (.iload 4) := ⟨by decide +kernel, rfl⟩
theorem eX11_fast_38 : zd 1 cX11_fast 38 39 (.i2l) := ⟨by decide +kernel, rfl⟩
theorem eX11_fast_39 : zd 1 cX11_fast 39 40 (.lconst 0) := ⟨by decide +kernel, rfl⟩
theorem eX11_fast_40 : zd 3 cX11_fast 40 43 (.ldc2_w 286) := ⟨by decide +kernel, rfl⟩
theorem eX11_fast_43 : zd 3 cX11_fast 43 46 (.invokestatic 86) := ⟨by decide +kernel, rfl⟩
theorem eX11_fast_46 : zdi cX11_fast 46 49 52 (.ifCond .ne) := ⟨6, by decide +kernel, rfl, by decide⟩
theorem eX11_fast_49 : zd 2 cX11_fast 49 51 (.ldc 90) := ⟨by decide +kernel, rfl⟩
theorem eX11_fast_51 : zd 1 cX11_fast 51 52 (.ireturn) := ⟨by decide +kernel, rfl⟩
theorem eX11_fast_52 : zd 1 cX11_fast 52 53 (.aload_n 0) := ⟨by decide +kernel, rfl⟩
theorem eX11_fast_53 : zd 1 cX11_fast 53 54 (.iload_n 1) := ⟨by decide +kernel, rfl⟩
theorem eX11_fast_54 : zd 3 cX11_fast 54 57 (.invokevirtual 243) := ⟨by decide +kernel, rfl⟩
theorem eX11_fast_57 : zdi cX11_fast 57 60 64 (.ifCond .eq) := ⟨7, by decide +kernel, rfl, by decide⟩
theorem eX11_fast_60 : zd 3 cX11_fast 60 63 (.ldc_w 326) := ⟨by decide +kernel, rfl⟩
theorem eX11_fast_63 : zd 1 cX11_fast 63 64 (.ireturn) := ⟨by decide +kernel, rfl⟩
theorem eX11_fast_64 : zd 2 cX11_fast 64 66 (.iload 4) := ⟨by decide +kernel, rfl⟩
theorem eX11_fast_66 : zd 1 cX11_fast 66 67 (.iconst (-1)) := ⟨by decide +kernel, rfl⟩
theorem eX11_fast_67 : zdi cX11_fast 67 70 80 (.if_icmp .ne) := ⟨13, by decide +kernel, rfl, by decide⟩
theorem eX11_fast_70 : zd 1 cX11_fast 70 71 (.aload_n 0) := ⟨by decide +kernel, rfl⟩
theorem eX11_fast_71 : zd 1 cX11_fast 71 72 (.iload_n 2) := ⟨by decide +kernel, rfl⟩
theorem eX11_fast_72 : zd 1 cX11_fast 72 73 (.iload_n 3) := ⟨by decide +kernel, rfl⟩
theorem eX11_fast_73 : zd 3 cX11_fast 73 76 (.invokevirtual 230) := ⟨by decide +kernel, rfl⟩
theorem eX11_fast_76 : zd 1 cX11_fast 76 77 (.l2i) := ⟨by decide +kernel, rfl⟩
theorem eX11_fast_77 : zdi cX11_fast 77 80 82 (.goto) := ⟨5, by decide +kernel, rfl, by decide⟩
theorem eX11_fast_80 : zd 2 cX11_fast 80 82 (.iload 4) := ⟨by decide +kernel, rfl⟩
theorem eX11_fast_82 : zd 2 cX11_fast 82 84 (.istore 5) := ⟨by decide +kernel, rfl⟩
theorem eX11_fast_84 : zd 1 cX11_fast 84 85 (.aload_n 0) := ⟨by decide +kernel, rfl⟩
theorem eX11_fast_85 : zd 1 cX11_fast 85 86 (.iload_n 1) := ⟨by decide +kernel, rfl⟩
theorem eX11_fast_86 : zd 1 cX11_fast 86 87 (.iload_n 2) := ⟨by decide +kernel, rfl⟩
theorem eX11_fast_87 : zd 1 cX11_fast 87 88 (.iload_n 3) := ⟨by decide +kernel, rfl⟩
theorem eX11_fast_88 : zd 2 cX11_fast 88 90 (.iload 5) := ⟨by decide +kernel, rfl⟩
theorem eX11_fast_90 : zd 3 cX11_fast 90 93 (.invokevirtual 327) := ⟨by decide +kernel, rfl⟩
theorem eX11_fast_93 : zd 2 cX11_fast 93 95 (.iload 5) := ⟨by decide +kernel, rfl⟩
theorem eX11_fast_95 : zd 1 cX11_fast 95 96 (.ireturn) := ⟨by decide +kernel, rfl⟩
theorem MX11_327 : zlV RX11 327 yX11_tie cX11_tie 5 (none) 4 := ⟨q1408, q1410, qs55, q12, q1411, by decide, by decide, by decide +kernel⟩
noncomputable def f_Mo_fast (v0 : tMo) (p1 : Int32) (p2 : Int32) (p3 : Int32) (p4 : Int32) : Option (Int32 × (Nat → Int32)) := (if (f_Mo_in p1.toInt64 0 5) = 0 then (some ((-1000000001), (gMo_lines v0))) else (if (f_Mo_isPost v0 p3) = 0 then (some ((-1000000001), (gMo_lines v0))) else (if (f_Mo_isPlace p2) = 0 then (some ((-1000000002), (gMo_lines v0))) else (if p4 = (-1) then (Option.bind (f_Mo_isFast v0 p1) (fun (r8 : Int32) => (if r8 = 0 then (Option.bind (if p4 = (-1) then (Option.bind (f_Mo_distance v0 p2 p3) (fun (r14 : Int64) => (some r14.toInt32))) else (some p4)) (fun (w11 : Int32) => (Option.bind (f_Mo_tie v0 p1 p2 p3 w11) (fun (r15 : (Nat → Int32)) => (some (w11, r15)))))) else (some ((-1000000003), (gMo_lines v0)))))) else (if (f_Mo_in p4.toInt64 0 9999) = 0 then (some ((-1000000002), (gMo_lines v0))) else (Option.bind (f_Mo_isFast v0 p1) (fun (r18 : Int32) => (if r18 = 0 then (Option.bind (if p4 = (-1) then (Option.bind (f_Mo_distance v0 p2 p3) (fun (r24 : Int64) => (some r24.toInt32))) else (some p4)) (fun (w21 : Int32) => (Option.bind (f_Mo_tie v0 p1 p2 p3 w21) (fun (r25 : (Nat → Int32)) => (some (w21, r25)))))) else (some ((-1000000003), (gMo_lines v0)))))))))))
abbrev rm_Mo_fast : Room := { frames := 4, cells := 0, slots := 0, locals := 91 }
set_option maxHeartbeats 4000000 in
set_option maxRecDepth 100000 in
theorem c_Mo_fast (l : Launch) (g : zGl) (a0 : Nat → Nat) (o0 : Nat) (v0 : tMo) (p1 : Int32) (p2 : Int32) (p3 : Int32) (p4 : Int32) (out : Int32 × (Nat → Int32)) (hf : f_Mo_fast v0 p1 p2 p3 p4 = some out) : zMi l yX11_fast cX11_fast 6 rm_Mo_fast g [.ref (a0 o0), .int p1, .int p2, .int p3, .int p4] (W_Mo g a0 o0 (gMo_ints v0) (gMo_told v0) (gMo_postX v0) (gMo_postStrong v0) (gMo_atRow v0) (gMo_heights v0) (gMo_ship v0) (gMo_lines v0) (gMo_text v0) (gMo_said v0) (gMo_readTold v0) (gMo_readX v0) (gMo_readStrong v0) (gMo_readRow v0) (gMo_parting v0) (gMo_wasShip v0) (gMo_wasLines v0) (gMo_worst v0) (gMo_logRow v0) (gMo_images v0) (gMo_isKept v0)) (out.1) (W_Mo g a0 o0 (gMo_ints v0) (gMo_told v0) (gMo_postX v0) (gMo_postStrong v0) (gMo_atRow v0) (gMo_heights v0) (gMo_ship v0) (out.2) (gMo_text v0) (gMo_said v0) (gMo_readTold v0) (gMo_readX v0) (gMo_readStrong v0) (gMo_readRow v0) (gMo_parting v0) (gMo_wasShip v0) (gMo_wasLines v0) (gMo_worst v0) (gMo_logRow v0) (gMo_images v0) (gMo_isKept v0)) := by
  refine zMi_of (lv := [(0, .ref (a0 o0)), (1, .int p1), (2, .int p2), (3, .int p3), (4, .int p4)]) (by decide) (Nat.le_of_ble_eq_true rfl) rfl (fun x hl hg C hret => ?_)
  subst hl; subst hg
  rw [f_Mo_fast] at hf
  refine r_iload_n C eX11_fast_0 1 rfl rfl ?_
  refine r_i2l C eX11_fast_1 ?_
  refine r_lconst C (v := 0) eX11_fast_2 (by decide) ?_
  refine r_ldc2 C (v := 5) eX11_fast_3 q1352 ?_
  refine r_S_z (ws' := W_Mo (z_g x) a0 o0 (gMo_ints v0) (gMo_told v0) (gMo_postX v0) (gMo_postStrong v0) (gMo_atRow v0) (gMo_heights v0) (gMo_ship v0) (gMo_lines v0) (gMo_text v0) (gMo_said v0) (gMo_readTold v0) (gMo_readX v0) (gMo_readStrong v0) (gMo_readRow v0) (gMo_parting v0) (gMo_wasShip v0) (gMo_wasLines v0) (gMo_worst v0) (gMo_logRow v0) (gMo_images v0) (gMo_isKept v0)) C (c_Mo_in (z_l x) (z_g x)  p1.toInt64 0 5 _ rfl) eX11_fast_6 MX11_86 [] rfl rfl rfl rfl [0, 1, 2, 3, 4, 5, 6, 7, 8, 9, 10, 11, 12, 13, 14, 15, 16, 17, 18, 19] rfl ⟨rfl, rfl, rfl, rfl, rfl, rfl, rfl, rfl, rfl, rfl, rfl, rfl, rfl, rfl, rfl, rfl, rfl, rfl, rfl, rfl, trivial⟩ 20 rfl rfl rfl rfl rfl rfl (fun zb1 => ?_)
  refine r_if_eq C eX11_fast_9 (fun c2 => ?_) (fun c2 => ?_)
  · rw [if_pos c2] at hf
    refine r_ldc C (v := (-1000000001)) eX11_fast_20 q1276 ?_
    obtain rfl := Option.some.inj (show some (((-1000000001), (gMo_lines v0)) : Int32 × (Nat → Int32)) = some _ from hf)
    exact hret _ _ _ eX11_fast_22
  · rw [if_neg c2] at hf
    refine r_aload_n C eX11_fast_12 0 rfl rfl ?_
    refine r_iload_n C eX11_fast_13 3 rfl rfl ?_
    refine r_V_z (ws' := W_Mo (z_g x) a0 o0 (gMo_ints v0) (gMo_told v0) (gMo_postX v0) (gMo_postStrong v0) (gMo_atRow v0) (gMo_heights v0) (gMo_ship v0) (gMo_lines v0) (gMo_text v0) (gMo_said v0) (gMo_readTold v0) (gMo_readX v0) (gMo_readStrong v0) (gMo_readRow v0) (gMo_parting v0) (gMo_wasShip v0) (gMo_wasLines v0) (gMo_worst v0) (gMo_logRow v0) (gMo_images v0) (gMo_isKept v0)) C (c_Mo_isPost (z_l x) (z_g x) a0 o0 v0 p3 _ rfl) eX11_fast_14 MX11_198 ⟨0, 11, _, _, rfl, rfl, rfl⟩ [0, 1, 2, 3, 4, 5, 6, 7, 8, 9, 10, 11, 12, 13, 14, 15, 16, 17, 18, 19] rfl rfl rfl rfl [] rfl trivial 20 rfl rfl rfl rfl rfl rfl (fun zb3 => ?_)
    refine r_if_ne C eX11_fast_17 (fun c4 => ?_) (fun c4 => ?_)
    · rw [if_neg c4] at hf
      refine r_iload_n C eX11_fast_23 2 rfl rfl ?_
      refine r_S_z (ws' := W_Mo (z_g x) a0 o0 (gMo_ints v0) (gMo_told v0) (gMo_postX v0) (gMo_postStrong v0) (gMo_atRow v0) (gMo_heights v0) (gMo_ship v0) (gMo_lines v0) (gMo_text v0) (gMo_said v0) (gMo_readTold v0) (gMo_readX v0) (gMo_readStrong v0) (gMo_readRow v0) (gMo_parting v0) (gMo_wasShip v0) (gMo_wasLines v0) (gMo_worst v0) (gMo_logRow v0) (gMo_images v0) (gMo_isKept v0)) C (c_Mo_isPlace (z_l x) (z_g x)  p2 _ rfl) eX11_fast_24 MX11_323 [] rfl rfl rfl rfl [0, 1, 2, 3, 4, 5, 6, 7, 8, 9, 10, 11, 12, 13, 14, 15, 16, 17, 18, 19] rfl ⟨rfl, rfl, rfl, rfl, rfl, rfl, rfl, rfl, rfl, rfl, rfl, rfl, rfl, rfl, rfl, rfl, rfl, rfl, rfl, rfl, trivial⟩ 20 rfl rfl rfl rfl rfl rfl (fun zb5 => ?_)
      refine r_if_eq C eX11_fast_27 (fun c6 => ?_) (fun c6 => ?_)
      · rw [if_pos c6] at hf
        refine r_ldc C (v := (-1000000002)) eX11_fast_49 q1183 ?_
        obtain rfl := Option.some.inj (show some (((-1000000002), (gMo_lines v0)) : Int32 × (Nat → Int32)) = some _ from hf)
        exact hret _ _ _ eX11_fast_51
      · rw [if_neg c6] at hf
        refine r_iload C eX11_fast_30 4 rfl ?_
        refine r_iconst C (v := (-1)) eX11_fast_32 (by decide) ?_
        refine r_icmp_eq C eX11_fast_33 (fun c7 => ?_) (fun c7 => ?_)
        · rw [if_pos c7] at hf
          refine r_aload_n C eX11_fast_52 0 rfl rfl ?_
          refine r_iload_n C eX11_fast_53 1 rfl rfl ?_
          obtain ⟨r8, hr8, hf⟩ := zbind hf
          refine r_V_z (ws' := W_Mo (z_g x) a0 o0 (gMo_ints v0) (gMo_told v0) (gMo_postX v0) (gMo_postStrong v0) (gMo_atRow v0) (gMo_heights v0) (gMo_ship v0) (gMo_lines v0) (gMo_text v0) (gMo_said v0) (gMo_readTold v0) (gMo_readX v0) (gMo_readStrong v0) (gMo_readRow v0) (gMo_parting v0) (gMo_wasShip v0) (gMo_wasLines v0) (gMo_worst v0) (gMo_logRow v0) (gMo_images v0) (gMo_isKept v0)) C (c_Mo_isFast (z_l x) (z_g x) a0 o0 v0 p1 r8 hr8) eX11_fast_54 MX11_243 ⟨0, 11, _, _, rfl, rfl, rfl⟩ [0, 1, 2, 3, 4, 5, 6, 7, 8, 9, 10, 11, 12, 13, 14, 15, 16, 17, 18, 19] rfl rfl rfl rfl [] rfl trivial 20 rfl rfl rfl rfl rfl rfl (fun zb9 => ?_)
          refine r_if_eq C eX11_fast_57 (fun c10 => ?_) (fun c10 => ?_)
          · rw [if_pos c10] at hf
            refine r_iload C eX11_fast_64 4 rfl ?_
            refine r_iconst C (v := (-1)) eX11_fast_66 (by decide) ?_
            obtain ⟨w11, hw11, hf⟩ := zbind hf
            have J12 : vV x 6 0 0 (W_Mo (z_g x) a0 o0 (gMo_ints v0) (gMo_told v0) (gMo_postX v0) (gMo_postStrong v0) (gMo_atRow v0) (gMo_heights v0) (gMo_ship v0) (gMo_lines v0) (gMo_text v0) (gMo_said v0) (gMo_readTold v0) (gMo_readX v0) (gMo_readStrong v0) (gMo_readRow v0) (gMo_parting v0) (gMo_wasShip v0) (gMo_wasLines v0) (gMo_worst v0) (gMo_logRow v0) (gMo_images v0) (gMo_isKept v0)) 82 [(0, .ref (a0 o0)), (1, .int p1), (2, .int p2), (3, .int p3)] [.int w11] := by
              refine r_istore C [(5, .int w11), (0, .ref (a0 o0)), (1, .int p1), (2, .int p2), (3, .int p3)] eX11_fast_82 (by decide) rfl ?_
              refine r_aload_n C eX11_fast_84 1 rfl rfl ?_
              refine r_iload_n C eX11_fast_85 2 rfl rfl ?_
              refine r_iload_n C eX11_fast_86 3 rfl rfl ?_
              refine r_iload_n C eX11_fast_87 4 rfl rfl ?_
              refine r_iload C eX11_fast_88 0 rfl ?_
              obtain ⟨r15, hr15, hf⟩ := zbind hf
              refine r_V_v (ws' := W_Mo (z_g x) a0 o0 (gMo_ints v0) (gMo_told v0) (gMo_postX v0) (gMo_postStrong v0) (gMo_atRow v0) (gMo_heights v0) (gMo_ship v0) r15 (gMo_text v0) (gMo_said v0) (gMo_readTold v0) (gMo_readX v0) (gMo_readStrong v0) (gMo_readRow v0) (gMo_parting v0) (gMo_wasShip v0) (gMo_wasLines v0) (gMo_worst v0) (gMo_logRow v0) (gMo_images v0) (gMo_isKept v0)) C (c_Mo_tie (z_l x) (z_g x) a0 o0 v0 p1 p2 p3 w11 r15 hr15) eX11_fast_90 MX11_327 ⟨0, 11, _, _, rfl, rfl, rfl⟩ [0, 1, 2, 3, 4, 5, 6, 7, 8, 9, 10, 11, 12, 13, 14, 15, 16, 17, 18, 19] rfl rfl rfl rfl [] rfl trivial 20 rfl rfl rfl rfl rfl rfl ?_
              refine r_iload C eX11_fast_93 0 rfl ?_
              obtain rfl := Option.some.inj (show some ((w11, r15) : Int32 × (Nat → Int32)) = some _ from hf)
              exact hret _ _ _ eX11_fast_95
            refine r_icmp_ne C eX11_fast_67 (fun c13 => ?_) (fun c13 => ?_)
            · rw [if_neg c13] at hw11
              refine r_iload C eX11_fast_80 4 rfl ?_
              obtain rfl := Option.some.inj hw11
              refine r_sub (lv' := [(0, .ref (a0 o0)), (1, .int p1), (2, .int p2), (3, .int p3)]) [0, 1, 2, 3] rfl ?_
              exact J12 
            · rw [if_pos c13] at hw11
              refine r_aload_n C eX11_fast_70 0 rfl rfl ?_
              refine r_iload_n C eX11_fast_71 2 rfl rfl ?_
              refine r_iload_n C eX11_fast_72 3 rfl rfl ?_
              obtain ⟨r14, hr14, hw11⟩ := zbind hw11
              refine r_V_l (ws' := W_Mo (z_g x) a0 o0 (gMo_ints v0) (gMo_told v0) (gMo_postX v0) (gMo_postStrong v0) (gMo_atRow v0) (gMo_heights v0) (gMo_ship v0) (gMo_lines v0) (gMo_text v0) (gMo_said v0) (gMo_readTold v0) (gMo_readX v0) (gMo_readStrong v0) (gMo_readRow v0) (gMo_parting v0) (gMo_wasShip v0) (gMo_wasLines v0) (gMo_worst v0) (gMo_logRow v0) (gMo_images v0) (gMo_isKept v0)) C (c_Mo_distance (z_l x) (z_g x) a0 o0 v0 p2 p3 r14 hr14) eX11_fast_73 MX11_230 ⟨0, 11, _, _, rfl, rfl, rfl⟩ [0, 1, 2, 3, 4, 5, 6, 7, 8, 9, 10, 11, 12, 13, 14, 15, 16, 17, 18, 19] rfl rfl rfl rfl [] rfl trivial 20 rfl rfl rfl rfl rfl rfl ?_
              refine r_l2i C eX11_fast_76 ?_
              refine r_goto C eX11_fast_77 ?_
              obtain rfl := Option.some.inj hw11
              refine r_sub (lv' := [(0, .ref (a0 o0)), (1, .int p1), (2, .int p2), (3, .int p3)]) [0, 1, 2, 3] rfl ?_
              exact J12 
          · rw [if_neg c10] at hf
            refine r_ldc_w C (v := (-1000000003)) eX11_fast_60 q1407 ?_
            obtain rfl := Option.some.inj (show some (((-1000000003), (gMo_lines v0)) : Int32 × (Nat → Int32)) = some _ from hf)
            exact hret _ _ _ eX11_fast_63
        · rw [if_neg c7] at hf
          refine r_iload C eX11_fast_36 4 rfl ?_
          refine r_i2l C eX11_fast_38 ?_
          refine r_lconst C (v := 0) eX11_fast_39 (by decide) ?_
          refine r_ldc2 C (v := 9999) eX11_fast_40 q1291 ?_
          refine r_S_z (ws' := W_Mo (z_g x) a0 o0 (gMo_ints v0) (gMo_told v0) (gMo_postX v0) (gMo_postStrong v0) (gMo_atRow v0) (gMo_heights v0) (gMo_ship v0) (gMo_lines v0) (gMo_text v0) (gMo_said v0) (gMo_readTold v0) (gMo_readX v0) (gMo_readStrong v0) (gMo_readRow v0) (gMo_parting v0) (gMo_wasShip v0) (gMo_wasLines v0) (gMo_worst v0) (gMo_logRow v0) (gMo_images v0) (gMo_isKept v0)) C (c_Mo_in (z_l x) (z_g x)  p4.toInt64 0 9999 _ rfl) eX11_fast_43 MX11_86 [] rfl rfl rfl rfl [0, 1, 2, 3, 4, 5, 6, 7, 8, 9, 10, 11, 12, 13, 14, 15, 16, 17, 18, 19] rfl ⟨rfl, rfl, rfl, rfl, rfl, rfl, rfl, rfl, rfl, rfl, rfl, rfl, rfl, rfl, rfl, rfl, rfl, rfl, rfl, rfl, trivial⟩ 20 rfl rfl rfl rfl rfl rfl (fun zb16 => ?_)
          refine r_if_ne C eX11_fast_46 (fun c17 => ?_) (fun c17 => ?_)
          · rw [if_neg c17] at hf
            refine r_aload_n C eX11_fast_52 0 rfl rfl ?_
            refine r_iload_n C eX11_fast_53 1 rfl rfl ?_
            obtain ⟨r18, hr18, hf⟩ := zbind hf
            refine r_V_z (ws' := W_Mo (z_g x) a0 o0 (gMo_ints v0) (gMo_told v0) (gMo_postX v0) (gMo_postStrong v0) (gMo_atRow v0) (gMo_heights v0) (gMo_ship v0) (gMo_lines v0) (gMo_text v0) (gMo_said v0) (gMo_readTold v0) (gMo_readX v0) (gMo_readStrong v0) (gMo_readRow v0) (gMo_parting v0) (gMo_wasShip v0) (gMo_wasLines v0) (gMo_worst v0) (gMo_logRow v0) (gMo_images v0) (gMo_isKept v0)) C (c_Mo_isFast (z_l x) (z_g x) a0 o0 v0 p1 r18 hr18) eX11_fast_54 MX11_243 ⟨0, 11, _, _, rfl, rfl, rfl⟩ [0, 1, 2, 3, 4, 5, 6, 7, 8, 9, 10, 11, 12, 13, 14, 15, 16, 17, 18, 19] rfl rfl rfl rfl [] rfl trivial 20 rfl rfl rfl rfl rfl rfl (fun zb19 => ?_)
            refine r_if_eq C eX11_fast_57 (fun c20 => ?_) (fun c20 => ?_)
            · rw [if_pos c20] at hf
              refine r_iload C eX11_fast_64 4 rfl ?_
              refine r_iconst C (v := (-1)) eX11_fast_66 (by decide) ?_
              obtain ⟨w21, hw21, hf⟩ := zbind hf
              have J22 : vV x 6 0 0 (W_Mo (z_g x) a0 o0 (gMo_ints v0) (gMo_told v0) (gMo_postX v0) (gMo_postStrong v0) (gMo_atRow v0) (gMo_heights v0) (gMo_ship v0) (gMo_lines v0) (gMo_text v0) (gMo_said v0) (gMo_readTold v0) (gMo_readX v0) (gMo_readStrong v0) (gMo_readRow v0) (gMo_parting v0) (gMo_wasShip v0) (gMo_wasLines v0) (gMo_worst v0) (gMo_logRow v0) (gMo_images v0) (gMo_isKept v0)) 82 [(0, .ref (a0 o0)), (1, .int p1), (2, .int p2), (3, .int p3)] [.int w21] := by
                refine r_istore C [(5, .int w21), (0, .ref (a0 o0)), (1, .int p1), (2, .int p2), (3, .int p3)] eX11_fast_82 (by decide) rfl ?_
                refine r_aload_n C eX11_fast_84 1 rfl rfl ?_
                refine r_iload_n C eX11_fast_85 2 rfl rfl ?_
                refine r_iload_n C eX11_fast_86 3 rfl rfl ?_
                refine r_iload_n C eX11_fast_87 4 rfl rfl ?_
                refine r_iload C eX11_fast_88 0 rfl ?_
                obtain ⟨r25, hr25, hf⟩ := zbind hf
                refine r_V_v (ws' := W_Mo (z_g x) a0 o0 (gMo_ints v0) (gMo_told v0) (gMo_postX v0) (gMo_postStrong v0) (gMo_atRow v0) (gMo_heights v0) (gMo_ship v0) r25 (gMo_text v0) (gMo_said v0) (gMo_readTold v0) (gMo_readX v0) (gMo_readStrong v0) (gMo_readRow v0) (gMo_parting v0) (gMo_wasShip v0) (gMo_wasLines v0) (gMo_worst v0) (gMo_logRow v0) (gMo_images v0) (gMo_isKept v0)) C (c_Mo_tie (z_l x) (z_g x) a0 o0 v0 p1 p2 p3 w21 r25 hr25) eX11_fast_90 MX11_327 ⟨0, 11, _, _, rfl, rfl, rfl⟩ [0, 1, 2, 3, 4, 5, 6, 7, 8, 9, 10, 11, 12, 13, 14, 15, 16, 17, 18, 19] rfl rfl rfl rfl [] rfl trivial 20 rfl rfl rfl rfl rfl rfl ?_
                refine r_iload C eX11_fast_93 0 rfl ?_
                obtain rfl := Option.some.inj (show some ((w21, r25) : Int32 × (Nat → Int32)) = some _ from hf)
                exact hret _ _ _ eX11_fast_95
              refine r_icmp_ne C eX11_fast_67 (fun c23 => ?_) (fun c23 => ?_)
              · rw [if_neg c23] at hw21
                refine r_iload C eX11_fast_80 4 rfl ?_
                obtain rfl := Option.some.inj hw21
                refine r_sub (lv' := [(0, .ref (a0 o0)), (1, .int p1), (2, .int p2), (3, .int p3)]) [0, 1, 2, 3] rfl ?_
                exact J22 
              · rw [if_pos c23] at hw21
                refine r_aload_n C eX11_fast_70 0 rfl rfl ?_
                refine r_iload_n C eX11_fast_71 2 rfl rfl ?_
                refine r_iload_n C eX11_fast_72 3 rfl rfl ?_
                obtain ⟨r24, hr24, hw21⟩ := zbind hw21
                refine r_V_l (ws' := W_Mo (z_g x) a0 o0 (gMo_ints v0) (gMo_told v0) (gMo_postX v0) (gMo_postStrong v0) (gMo_atRow v0) (gMo_heights v0) (gMo_ship v0) (gMo_lines v0) (gMo_text v0) (gMo_said v0) (gMo_readTold v0) (gMo_readX v0) (gMo_readStrong v0) (gMo_readRow v0) (gMo_parting v0) (gMo_wasShip v0) (gMo_wasLines v0) (gMo_worst v0) (gMo_logRow v0) (gMo_images v0) (gMo_isKept v0)) C (c_Mo_distance (z_l x) (z_g x) a0 o0 v0 p2 p3 r24 hr24) eX11_fast_73 MX11_230 ⟨0, 11, _, _, rfl, rfl, rfl⟩ [0, 1, 2, 3, 4, 5, 6, 7, 8, 9, 10, 11, 12, 13, 14, 15, 16, 17, 18, 19] rfl rfl rfl rfl [] rfl trivial 20 rfl rfl rfl rfl rfl rfl ?_
                refine r_l2i C eX11_fast_76 ?_
                refine r_goto C eX11_fast_77 ?_
                obtain rfl := Option.some.inj hw21
                refine r_sub (lv' := [(0, .ref (a0 o0)), (1, .int p1), (2, .int p2), (3, .int p3)]) [0, 1, 2, 3] rfl ?_
                exact J22 
            · rw [if_neg c20] at hf
              refine r_ldc_w C (v := (-1000000003)) eX11_fast_60 q1407 ?_
              obtain rfl := Option.some.inj (show some (((-1000000003), (gMo_lines v0)) : Int32 × (Nat → Int32)) = some _ from hf)
              exact hret _ _ _ eX11_fast_63
          · rw [if_pos c17] at hf
            refine r_ldc C (v := (-1000000002)) eX11_fast_49 q1183 ?_
            obtain rfl := Option.some.inj (show some (((-1000000002), (gMo_lines v0)) : Int32 × (Nat → Int32)) = some _ from hf)
            exact hret _ _ _ eX11_fast_51
    · rw [if_pos c4] at hf
      refine r_ldc C (v := (-1000000001)) eX11_fast_20 q1276 ?_
      obtain rfl := Option.some.inj (show some (((-1000000001), (gMo_lines v0)) : Int32 × (Nat → Int32)) = some _ from hf)
      exact hret _ _ _ eX11_fast_22
theorem eX11_fastMany_0 : zd 1 cX11_fastMany 0 1 (.iconst 0) := ⟨by decide +kernel, rfl⟩
theorem eX11_fastMany_1 : zd 1 cX11_fastMany 1 2 (.istore_n 1) := ⟨by decide +kernel, rfl⟩
theorem eX11_fastMany_2 : zd 1 cX11_fastMany 2 3 (.iconst 0) := ⟨by decide +kernel, rfl⟩
theorem eX11_fastMany_3 : zd 1 cX11_fastMany 3 4 (.istore_n 2) := ⟨by decide +kernel, rfl⟩
theorem eX11_fastMany_4 : zd 1 cX11_fastMany 4 5 (.iload_n 2) := ⟨by decide +kernel, rfl⟩
theorem eX11_fastMany_5 : zd 2 cX11_fastMany 5 7 (.bipush 6) := ⟨by decide +kernel, rfl⟩
theorem eX11_fastMany_7 : zdi cX11_fastMany 7 10 27 (.if_icmp .ge) := ⟨20, by decide +kernel, rfl, by decide⟩
theorem eX11_fastMany_10 : zd 1 cX11_fastMany 10 11 (.iload_n 1) := ⟨by decide +kernel, rfl⟩
theorem eX11_fastMany_11 : zd 1 cX11_fastMany 11 12 (.aload_n 0) := ⟨by decide +kernel, rfl⟩
theorem eX11_fastMany_12 : zd 3 cX11_fastMany 12 15 (.getfield 29) := ⟨by decide +kernel, rfl⟩
theorem eX11_fastMany_15 : zd 1 cX11_fastMany 15 16 (.iconst 4) := ⟨by decide +kernel, rfl⟩
theorem eX11_fastMany_16 : zd 1 cX11_fastMany 16 17 (.iload_n 2) := ⟨by decide +kernel, rfl⟩
theorem eX11_fastMany_17 : zd 1 cX11_fastMany 17 18 (.imul) := ⟨by decide +kernel, rfl⟩
theorem eX11_fastMany_18 : zd 1 cX11_fastMany 18 19 (.iaload) := ⟨by decide +kernel, rfl⟩
theorem eX11_fastMany_19 : zd 1 cX11_fastMany 19 20 (.iadd) := ⟨by decide +kernel, rfl⟩
theorem eX11_fastMany_20 : zd 1 cX11_fastMany 20 21 (.istore_n 1) := ⟨by decide +kernel, rfl⟩
theorem eX11_fastMany_21 : zd 3 cX11_fastMany 21 24 (.iinc 2 1) := ⟨by decide +kernel, rfl⟩
theorem eX11_fastMany_24 : zdi cX11_fastMany 24 27 4 (.goto) := ⟨(-20), by decide +kernel, rfl, by decide⟩
theorem eX11_fastMany_27 : zd 1 cX11_fastMany 27 28 (.iload_n 1) := ⟨by decide +kernel, rfl⟩
theorem eX11_fastMany_28 : zd 1 cX11_fastMany 28 29 (.ireturn) := ⟨by decide +kernel, rfl⟩
noncomputable def fB_Mo_fastMany_4 (v0 : tMo) (ih : (Int32 × Int32) → Option (Int32 × Int32)) (s1 : Int32 × Int32) : Option (Int32 × Int32) := (if 6 ≤ (s1.2) then (some ((s1.1), (s1.2))) else (if inb (4 * (s1.2)) 24 = true then (zlet ((s1.1) + ((gMo_lines v0) (ix (4 * (s1.2))))) (fun (z8 : Int32) => (ih (z8, ((s1.2) + 1))))) else none))
noncomputable def f_Mo_fastMany (v0 : tMo)  : Option (Int32) := (Option.bind (lp (fB_Mo_fastMany_4 v0) LF (0, 0)) (fun (q2 : Int32 × Int32) => (some (q2.1))))
abbrev rm_Mo_fastMany : Room := { frames := 0, cells := 0, slots := 0, locals := 0 }
set_option maxHeartbeats 4000000 in
set_option maxRecDepth 100000 in
theorem c_Mo_fastMany (l : Launch) (g : zGl) (a0 : Nat → Nat) (o0 : Nat) (v0 : tMo)  (out : Int32) (hf : f_Mo_fastMany v0 = some out) : zMi l yX11_fastMany cX11_fastMany 3 rm_Mo_fastMany g [.ref (a0 o0)] (W_Mo g a0 o0 (gMo_ints v0) (gMo_told v0) (gMo_postX v0) (gMo_postStrong v0) (gMo_atRow v0) (gMo_heights v0) (gMo_ship v0) (gMo_lines v0) (gMo_text v0) (gMo_said v0) (gMo_readTold v0) (gMo_readX v0) (gMo_readStrong v0) (gMo_readRow v0) (gMo_parting v0) (gMo_wasShip v0) (gMo_wasLines v0) (gMo_worst v0) (gMo_logRow v0) (gMo_images v0) (gMo_isKept v0)) out (W_Mo g a0 o0 (gMo_ints v0) (gMo_told v0) (gMo_postX v0) (gMo_postStrong v0) (gMo_atRow v0) (gMo_heights v0) (gMo_ship v0) (gMo_lines v0) (gMo_text v0) (gMo_said v0) (gMo_readTold v0) (gMo_readX v0) (gMo_readStrong v0) (gMo_readRow v0) (gMo_parting v0) (gMo_wasShip v0) (gMo_wasLines v0) (gMo_worst v0) (gMo_logRow v0) (gMo_images v0) (gMo_isKept v0)) := by
  refine zMi_of (lv := [(0, .ref (a0 o0))]) (by decide) (Nat.le_of_ble_eq_true rfl) rfl (fun x hl hg C hret => ?_)
  subst hl; subst hg
  rw [f_Mo_fastMany] at hf
  refine r_iconst C (v := 0) eX11_fastMany_0 (by decide) ?_
  refine r_istore_n C [(1, .int 0), (0, .ref (a0 o0))] eX11_fastMany_1 rfl (by decide) rfl ?_
  refine r_iconst C (v := 0) eX11_fastMany_2 (by decide) ?_
  refine r_istore_n C [(2, .int 0), (1, .int 0), (0, .ref (a0 o0))] eX11_fastMany_3 rfl (by decide) rfl ?_
  obtain ⟨q2, h3, hf⟩ := zbind hf
  have J4 : vV x 3 0 0 (W_Mo (z_g x) a0 o0 (gMo_ints v0) (gMo_told v0) (gMo_postX v0) (gMo_postStrong v0) (gMo_atRow v0) (gMo_heights v0) (gMo_ship v0) (gMo_lines v0) (gMo_text v0) (gMo_said v0) (gMo_readTold v0) (gMo_readX v0) (gMo_readStrong v0) (gMo_readRow v0) (gMo_parting v0) (gMo_wasShip v0) (gMo_wasLines v0) (gMo_worst v0) (gMo_logRow v0) (gMo_images v0) (gMo_isKept v0)) 27 [(1, .int (q2.1))] [] := by
    refine r_iload_n C eX11_fastMany_27 0 rfl rfl ?_
    obtain rfl := Option.some.inj (show some ((q2.1) : Int32) = some _ from hf)
    exact hret _ _ _ eX11_fastMany_28
  have L5 : ∀ (nL5 : Nat) (s1 : Int32 × Int32), lp (fB_Mo_fastMany_4 v0) nL5 s1 = some q2 → vV x 3 0 0 (W_Mo (z_g x) a0 o0 (gMo_ints v0) (gMo_told v0) (gMo_postX v0) (gMo_postStrong v0) (gMo_atRow v0) (gMo_heights v0) (gMo_ship v0) (gMo_lines v0) (gMo_text v0) (gMo_said v0) (gMo_readTold v0) (gMo_readX v0) (gMo_readStrong v0) (gMo_readRow v0) (gMo_parting v0) (gMo_wasShip v0) (gMo_wasLines v0) (gMo_worst v0) (gMo_logRow v0) (gMo_images v0) (gMo_isKept v0)) 4 [(0, .ref (a0 o0)), (1, .int (s1.1)), (2, .int (s1.2))] [] := by
    intro nL5
    induction nL5 with
    | zero => intro s1 hq; cases hq
    | succ nL5 ihL5 =>
      intro s1 hbL5
      rw [lp_succ, fB_Mo_fastMany_4] at hbL5
      refine r_iload_n C eX11_fastMany_4 2 rfl rfl ?_
      refine r_bipush C (v := 6) eX11_fastMany_5 (by decide) ?_
      refine r_icmp_ge C eX11_fastMany_7 (fun c6 => ?_) (fun c6 => ?_)
      · rw [if_pos c6] at hbL5
        obtain rfl := Option.some.inj hbL5
        refine r_sub (lv' := [(1, .int (s1.1))]) [1] rfl ?_
        exact J4
      · rw [if_neg c6] at hbL5
        refine r_iload_n C eX11_fastMany_10 1 rfl rfl ?_
        refine r_aload_n C eX11_fastMany_11 0 rfl rfl ?_
        refine r_get (v := .ref (a0 (o0 + 7))) C eX11_fastMany_12 FX11_29 0 rfl rfl ?_
        refine r_iconst C (v := 4) eX11_fastMany_15 (by decide) ?_
        refine r_iload_n C eX11_fastMany_16 2 rfl rfl ?_
        refine r_imul C eX11_fastMany_17 ?_
        obtain ⟨hb7, hbL5⟩ := zchk hbL5
        refine r_iald C eX11_fastMany_18 7 rfl (inb_in hb7) ((gMo_lines v0) (ix (4 * (s1.2)))) rfl ?_
        refine r_iadd C eX11_fastMany_19 ?_
        obtain ⟨z8, hz8, hbL5⟩ := zlet_of hbL5
        refine r_nami hz8 ?_
        refine r_istore_n C [(1, .int z8), (0, .ref (a0 o0)), (2, .int (s1.2))] eX11_fastMany_20 rfl (by decide) rfl ?_
        refine r_iinc C (v := ((s1.2) + 1)) [(2, .int ((s1.2) + 1)), (1, .int z8), (0, .ref (a0 o0))] eX11_fastMany_21 2 rfl rfl (by decide) rfl ?_
        refine r_goto C eX11_fastMany_24 ?_
        refine r_sub (lv' := [(0, .ref (a0 o0)), (1, .int z8), (2, .int ((s1.2) + 1))]) [2, 1, 0] rfl ?_
        have hc := ihL5 (z8, ((s1.2) + 1)) hbL5
        exact hc
  refine r_sub (lv' := [(0, .ref (a0 o0)), (1, .int 0), (2, .int 0)]) [2, 1, 0] rfl ?_
  have hc := L5 LF (0, 0) h3
  exact hc
theorem eX11_fault_0 : zd 1 cX11_fault 0 1 (.aload_n 0) := ⟨by decide +kernel, rfl⟩
theorem eX11_fault_1 : zd 3 cX11_fault 1 4 (.getfield 35) := ⟨by decide +kernel, rfl⟩
theorem eX11_fault_4 : zd 1 cX11_fault 4 5 (.ireturn) := ⟨by decide +kernel, rfl⟩
theorem FX11_35 : zlF RX11 35 11 12 := ⟨(RX11, TX11, 34), rfl, by decide, q1083, zin11⟩
noncomputable def f_Mo_fault (v0 : tMo)  : Int32 := ((gMo_ints v0) 12)
abbrev rm_Mo_fault : Room := { frames := 0, cells := 0, slots := 0, locals := 0 }
set_option maxHeartbeats 4000000 in
set_option maxRecDepth 100000 in
theorem c_Mo_fault (l : Launch) (g : zGl) (a0 : Nat → Nat) (o0 : Nat) (v0 : tMo)  (out : Int32) (hf : f_Mo_fault v0 = out) : zMi l yX11_fault cX11_fault 1 rm_Mo_fault g [.ref (a0 o0)] (W_Mo g a0 o0 (gMo_ints v0) (gMo_told v0) (gMo_postX v0) (gMo_postStrong v0) (gMo_atRow v0) (gMo_heights v0) (gMo_ship v0) (gMo_lines v0) (gMo_text v0) (gMo_said v0) (gMo_readTold v0) (gMo_readX v0) (gMo_readStrong v0) (gMo_readRow v0) (gMo_parting v0) (gMo_wasShip v0) (gMo_wasLines v0) (gMo_worst v0) (gMo_logRow v0) (gMo_images v0) (gMo_isKept v0)) out (W_Mo g a0 o0 (gMo_ints v0) (gMo_told v0) (gMo_postX v0) (gMo_postStrong v0) (gMo_atRow v0) (gMo_heights v0) (gMo_ship v0) (gMo_lines v0) (gMo_text v0) (gMo_said v0) (gMo_readTold v0) (gMo_readX v0) (gMo_readStrong v0) (gMo_readRow v0) (gMo_parting v0) (gMo_wasShip v0) (gMo_wasLines v0) (gMo_worst v0) (gMo_logRow v0) (gMo_images v0) (gMo_isKept v0)) := by
  refine zMi_of (lv := [(0, .ref (a0 o0))]) (by decide) (Nat.le_of_ble_eq_true rfl) rfl (fun x hl hg C hret => ?_)
  subst hl; subst hg
  rw [f_Mo_fault] at hf
  refine r_aload_n C eX11_fault_0 0 rfl rfl ?_
  refine r_get (v := .int ((gMo_ints v0) 12)) C eX11_fault_1 FX11_35 0 rfl rfl ?_
  subst hf
  exact hret _ _ _ eX11_fault_4
theorem eX11_feed_0 : zd 1 cX11_feed 0 1 (.iload_n 1) := ⟨by decide +kernel, rfl⟩
theorem eX11_feed_1 : zd 1 cX11_feed 1 2 (.i2l) := ⟨by decide +kernel, rfl⟩
theorem eX11_feed_2 : zd 1 cX11_feed 2 3 (.lconst 1) := ⟨by decide +kernel, rfl⟩
theorem eX11_feed_3 : zd 3 cX11_feed 3 6 (.ldc2_w 84) := ⟨by decide +kernel, rfl⟩
theorem eX11_feed_6 : zd 3 cX11_feed 6 9 (.invokestatic 86) := ⟨by decide +kernel, rfl⟩
theorem eX11_feed_9 : zdi cX11_feed 9 12 15 (.ifCond .ne) := ⟨6, by decide +kernel, rfl, by decide⟩
theorem eX11_feed_12 : zd 2 cX11_feed 12 14 (.ldc 90) := ⟨by decide +kernel, rfl⟩
theorem eX11_feed_14 : zd 1 cX11_feed 14 15 (.ireturn) := ⟨by decide +kernel, rfl⟩
theorem eX11_feed_15 : zd 1 cX11_feed 15 16 (.aload_n 0) := ⟨by decide +kernel, rfl⟩
theorem eX11_feed_16 : zd 3 cX11_feed 16 19 (.getfield 91) := ⟨by decide +kernel, rfl⟩
theorem eX11_feed_19 : zd 1 cX11_feed 19 20 (.iload_n 1) := ⟨by decide +kernel, rfl⟩
theorem eX11_feed_20 : zd 1 cX11_feed 20 21 (.iadd) := ⟨by decide +kernel, rfl⟩
theorem eX11_feed_21 : zd 3 cX11_feed 21 24 (.sipush 300) := ⟨by decide +kernel, rfl⟩
theorem eX11_feed_24 : zdi cX11_feed 24 27 30 (.if_icmp .le) := ⟨6, by decide +kernel, rfl, by decide⟩
theorem eX11_feed_27 : zd 2 cX11_feed 27 29 (.ldc 94) := ⟨by decide +kernel, rfl⟩
theorem eX11_feed_29 : zd 1 cX11_feed 29 30 (.ireturn) := ⟨by decide +kernel, rfl⟩
theorem eX11_feed_30 : zd 1 cX11_feed 30 31 (.iload_n 1) := ⟨by decide +kernel, rfl⟩
theorem eX11_feed_31 : zd 1 cX11_feed 31 32 (.iconst 1) := ⟨by decide +kernel, rfl⟩
theorem eX11_feed_32 : zd 1 cX11_feed 32 33 (.isub) := ⟨by decide +kernel, rfl⟩
theorem eX11_feed_33 : zd 2 cX11_feed 33 35 (.istore 4) := ⟨by decide +kernel, rfl⟩
theorem eX11_feed_35 : zd 2 cX11_feed 35 37 (.iload 4) := ⟨by decide +kernel, rfl⟩
theorem eX11_feed_37 : zdi cX11_feed 37 40 77 (.ifCond .lt) := ⟨40, by decide +kernel, rfl, by decide⟩
theorem eX11_feed_40 : zd 1 cX11_feed 40 41 (.aload_n 0) := ⟨by decide +kernel, rfl⟩
theorem eX11_feed_41 : zd 3 cX11_feed 41 44 (.getfield 32) := ⟨by decide +kernel, rfl⟩
theorem eX11_feed_44 : zd 1 cX11_feed 44 45 (.aload_n 0) := ⟨by decide +kernel, rfl⟩
theorem eX11_feed_45 : zd 3 cX11_feed 45 48 (.getfield 91) := ⟨by decide +kernel, rfl⟩
theorem eX11_feed_48 : zd 1 cX11_feed 48 49 (.lload_n 2) := ⟨by decide +kernel, rfl⟩
theorem eX11_feed_49 : zd 2 cX11_feed 49 51 (.bipush 8) := ⟨by decide +kernel, rfl⟩
theorem eX11_feed_51 : zd 2 cX11_feed 51 53 (.iload 4) := ⟨by decide +kernel, rfl⟩
theorem eX11_feed_53 : zd 1 cX11_feed 53 54 (.imul) := ⟨by decide +kernel, rfl⟩
theorem eX11_feed_54 : zd 1 cX11_feed 54 55 (.lshr) := ⟨by decide +kernel, rfl⟩
theorem eX11_feed_55 : zd 3 cX11_feed 55 58 (.ldc2_w 95) := ⟨by decide +kernel, rfl⟩
theorem eX11_feed_58 : zd 1 cX11_feed 58 59 (.land) := ⟨by decide +kernel, rfl⟩
theorem eX11_feed_59 : zd 1 cX11_feed 59 60 (.l2i) := ⟨by decide +kernel, rfl⟩
theorem eX11_feed_60 : zd 1 cX11_feed 60 61 (.iastore) := ⟨by decide +kernel, rfl⟩
theorem eX11_feed_61 : zd 1 cX11_feed 61 62 (.aload_n 0) := ⟨by decide +kernel, rfl⟩
theorem eX11_feed_62 : zd 1 cX11_feed 62 63 (.dup) := ⟨by decide +kernel, rfl⟩
theorem eX11_feed_63 : zd 3 cX11_feed 63 66 (.getfield 91) := ⟨by decide +kernel, rfl⟩
theorem eX11_feed_66 : zd 1 cX11_feed 66 67 (.iconst 1) := ⟨by decide +kernel, rfl⟩
theorem eX11_feed_67 : zd 1 cX11_feed 67 68 (.iadd) := ⟨by decide +kernel, rfl⟩
theorem eX11_feed_68 : zd 3 cX11_feed 68 71 (.putfield 91) := ⟨by decide +kernel, rfl⟩
theorem eX11_feed_71 : zd 3 cX11_feed 71 74 (.iinc 4 (-1)) := ⟨by decide +kernel, rfl⟩
theorem eX11_feed_74 : zdi cX11_feed 74 77 35 (.goto) := ⟨(-39), by decide +kernel, rfl, by decide⟩
theorem eX11_feed_77 : zd 1 cX11_feed 77 78 (.aload_n 0) := ⟨by decide +kernel, rfl⟩
theorem eX11_feed_78 : zd 3 cX11_feed 78 81 (.getfield 91) := ⟨by decide +kernel, rfl⟩
theorem eX11_feed_81 : zd 1 cX11_feed 81 82 (.ireturn) := ⟨by decide +kernel, rfl⟩
theorem FX11_32 : zlF RX11 32 11 10 := ⟨(RX11, TX11, 34), rfl, by decide, q1081, zin11⟩
theorem FX11_91 : zlF RX11 91 11 11 := ⟨(RX11, TX11, 34), rfl, by decide, q1082, zin11⟩
theorem PX11_91 : zlP RX11 91 11 11 .int := ⟨(RX11, TX11, 34), tyX11, rfl, by decide, q1082, zin11, tyX11_ok, nmX11, rfl, by decide +kernel⟩
noncomputable def fB_Mo_feed_35 (p2 : Int64) (ih : (Int32 × (Nat → Int32) × (Nat → Int32)) → Option (Int32 × (Nat → Int32) × (Nat → Int32))) (s5 : Int32 × (Nat → Int32) × (Nat → Int32)) : Option (Int32 × (Nat → Int32) × (Nat → Int32)) := (if (s5.1) < 0 then (some ((s5.1), (s5.2.1), (s5.2.2))) else (zlet ((p2 >>> ((8 * (s5.1)).toInt64 &&& 63)) &&& 255).toInt32 (fun (z11 : Int32) => (if inb ((s5.2.1) 11) 300 = true then (zlet (((s5.2.1) 11) + 1) (fun (z13 : Int32) => (ih (((s5.1) + (-1)), (upd (s5.2.1) 11 z13), (upd (s5.2.2) (ix ((s5.2.1) 11)) z11))))) else none))))
noncomputable def f_Mo_feed (v0 : tMo) (p1 : Int32) (p2 : Int64) : Option (Int32 × (Nat → Int32) × (Nat → Int32)) := (if (f_Mo_in p1.toInt64 1 8) = 0 then (some ((-1000000002), (gMo_ints v0), (gMo_text v0))) else (if (((gMo_ints v0) 11) + p1) ≤ 300 then (zlet (p1 - 1) (fun (z4 : Int32) => (Option.bind (lp (fB_Mo_feed_35 p2) LF (z4, (gMo_ints v0), (gMo_text v0))) (fun (q6 : Int32 × (Nat → Int32) × (Nat → Int32)) => (some (((q6.2.1) 11), (q6.2.1), (q6.2.2))))))) else (some ((-1000000004), (gMo_ints v0), (gMo_text v0)))))
abbrev rm_Mo_feed : Room := { frames := 1, cells := 0, slots := 0, locals := 25 }
set_option maxHeartbeats 4000000 in
set_option maxRecDepth 100000 in
theorem c_Mo_feed (l : Launch) (g : zGl) (a0 : Nat → Nat) (o0 : Nat) (v0 : tMo) (p1 : Int32) (p2 : Int64) (out : Int32 × (Nat → Int32) × (Nat → Int32)) (hf : f_Mo_feed v0 p1 p2 = some out) : zMi l yX11_feed cX11_feed 5 rm_Mo_feed g [.ref (a0 o0), .int p1, .long p2] (W_Mo g a0 o0 (gMo_ints v0) (gMo_told v0) (gMo_postX v0) (gMo_postStrong v0) (gMo_atRow v0) (gMo_heights v0) (gMo_ship v0) (gMo_lines v0) (gMo_text v0) (gMo_said v0) (gMo_readTold v0) (gMo_readX v0) (gMo_readStrong v0) (gMo_readRow v0) (gMo_parting v0) (gMo_wasShip v0) (gMo_wasLines v0) (gMo_worst v0) (gMo_logRow v0) (gMo_images v0) (gMo_isKept v0)) (out.1) (W_Mo g a0 o0 (out.2.1) (gMo_told v0) (gMo_postX v0) (gMo_postStrong v0) (gMo_atRow v0) (gMo_heights v0) (gMo_ship v0) (gMo_lines v0) (out.2.2) (gMo_said v0) (gMo_readTold v0) (gMo_readX v0) (gMo_readStrong v0) (gMo_readRow v0) (gMo_parting v0) (gMo_wasShip v0) (gMo_wasLines v0) (gMo_worst v0) (gMo_logRow v0) (gMo_images v0) (gMo_isKept v0)) := by
  refine zMi_of (lv := [(0, .ref (a0 o0)), (1, .int p1), (2, .long p2)]) (by decide) (Nat.le_of_ble_eq_true rfl) rfl (fun x hl hg C hret => ?_)
  subst hl; subst hg
  rw [f_Mo_feed] at hf
  refine r_iload_n C eX11_feed_0 1 rfl rfl ?_
  refine r_i2l C eX11_feed_1 ?_
  refine r_lconst C (v := 1) eX11_feed_2 (by decide) ?_
  refine r_ldc2 C (v := 8) eX11_feed_3 q1179 ?_
  refine r_S_z (ws' := W_Mo (z_g x) a0 o0 (gMo_ints v0) (gMo_told v0) (gMo_postX v0) (gMo_postStrong v0) (gMo_atRow v0) (gMo_heights v0) (gMo_ship v0) (gMo_lines v0) (gMo_text v0) (gMo_said v0) (gMo_readTold v0) (gMo_readX v0) (gMo_readStrong v0) (gMo_readRow v0) (gMo_parting v0) (gMo_wasShip v0) (gMo_wasLines v0) (gMo_worst v0) (gMo_logRow v0) (gMo_images v0) (gMo_isKept v0)) C (c_Mo_in (z_l x) (z_g x)  p1.toInt64 1 8 _ rfl) eX11_feed_6 MX11_86 [] rfl rfl rfl rfl [0, 1, 2, 3, 4, 5, 6, 7, 8, 9, 10, 11, 12, 13, 14, 15, 16, 17, 18, 19] rfl ⟨rfl, rfl, rfl, rfl, rfl, rfl, rfl, rfl, rfl, rfl, rfl, rfl, rfl, rfl, rfl, rfl, rfl, rfl, rfl, rfl, trivial⟩ 20 rfl rfl rfl rfl rfl rfl (fun zb1 => ?_)
  refine r_if_ne C eX11_feed_9 (fun c2 => ?_) (fun c2 => ?_)
  · rw [if_neg c2] at hf
    refine r_aload_n C eX11_feed_15 0 rfl rfl ?_
    refine r_get (v := .int ((gMo_ints v0) 11)) C eX11_feed_16 FX11_91 0 rfl rfl ?_
    refine r_iload_n C eX11_feed_19 1 rfl rfl ?_
    refine r_iadd C eX11_feed_20 ?_
    refine r_sipush C (v := 300) eX11_feed_21 (by decide) ?_
    refine r_icmp_le C eX11_feed_24 (fun c3 => ?_) (fun c3 => ?_)
    · rw [if_pos c3] at hf
      refine r_iload_n C eX11_feed_30 1 rfl rfl ?_
      refine r_iconst C (v := 1) eX11_feed_31 (by decide) ?_
      refine r_isub C eX11_feed_32 ?_
      obtain ⟨z4, hz4, hf⟩ := zlet_of hf
      refine r_nami hz4 ?_
      refine r_istore C [(4, .int z4), (0, .ref (a0 o0)), (1, .int p1), (2, .long p2)] eX11_feed_33 (by decide) rfl ?_
      obtain ⟨q6, h7, hf⟩ := zbind hf
      have J8 : vV x 5 0 0 (W_Mo (z_g x) a0 o0 (q6.2.1) (gMo_told v0) (gMo_postX v0) (gMo_postStrong v0) (gMo_atRow v0) (gMo_heights v0) (gMo_ship v0) (gMo_lines v0) (q6.2.2) (gMo_said v0) (gMo_readTold v0) (gMo_readX v0) (gMo_readStrong v0) (gMo_readRow v0) (gMo_parting v0) (gMo_wasShip v0) (gMo_wasLines v0) (gMo_worst v0) (gMo_logRow v0) (gMo_images v0) (gMo_isKept v0)) 77 [(0, .ref (a0 o0))] [] := by
        refine r_aload_n C eX11_feed_77 0 rfl rfl ?_
        refine r_get (v := .int ((q6.2.1) 11)) C eX11_feed_78 FX11_91 0 rfl rfl ?_
        obtain rfl := Option.some.inj (show some ((((q6.2.1) 11), (q6.2.1), (q6.2.2)) : Int32 × (Nat → Int32) × (Nat → Int32)) = some _ from hf)
        exact hret _ _ _ eX11_feed_81
      have L9 : ∀ (nL9 : Nat) (s5 : Int32 × (Nat → Int32) × (Nat → Int32)), lp (fB_Mo_feed_35 p2) nL9 s5 = some q6 → vV x 5 0 0 (W_Mo (z_g x) a0 o0 (s5.2.1) (gMo_told v0) (gMo_postX v0) (gMo_postStrong v0) (gMo_atRow v0) (gMo_heights v0) (gMo_ship v0) (gMo_lines v0) (s5.2.2) (gMo_said v0) (gMo_readTold v0) (gMo_readX v0) (gMo_readStrong v0) (gMo_readRow v0) (gMo_parting v0) (gMo_wasShip v0) (gMo_wasLines v0) (gMo_worst v0) (gMo_logRow v0) (gMo_images v0) (gMo_isKept v0)) 35 [(0, .ref (a0 o0)), (2, .long p2), (4, .int (s5.1))] [] := by
        intro nL9
        induction nL9 with
        | zero => intro s5 hq; cases hq
        | succ nL9 ihL9 =>
          intro s5 hbL9
          rw [lp_succ, fB_Mo_feed_35] at hbL9
          refine r_iload C eX11_feed_35 2 rfl ?_
          refine r_if_lt C eX11_feed_37 (fun c10 => ?_) (fun c10 => ?_)
          · rw [if_pos c10] at hbL9
            obtain rfl := Option.some.inj hbL9
            refine r_sub (lv' := [(0, .ref (a0 o0))]) [0] rfl ?_
            exact J8
          · rw [if_neg c10] at hbL9
            refine r_aload_n C eX11_feed_40 0 rfl rfl ?_
            refine r_get (v := .ref (a0 (o0 + 8))) C eX11_feed_41 FX11_32 0 rfl rfl ?_
            refine r_aload_n C eX11_feed_44 0 rfl rfl ?_
            refine r_get (v := .int ((s5.2.1) 11)) C eX11_feed_45 FX11_91 0 rfl rfl ?_
            refine r_lload_n C eX11_feed_48 1 rfl rfl ?_
            refine r_bipush C (v := 8) eX11_feed_49 (by decide) ?_
            refine r_iload C eX11_feed_51 2 rfl ?_
            refine r_imul C eX11_feed_53 ?_
            refine r_lshr C eX11_feed_54 ?_
            refine r_ldc2 C (v := 255) eX11_feed_55 q1185 ?_
            refine r_land C eX11_feed_58 ?_
            refine r_l2i C eX11_feed_59 ?_
            obtain ⟨z11, hz11, hbL9⟩ := zlet_of hbL9
            refine r_nami hz11 ?_
            obtain ⟨hb12, hbL9⟩ := zchk hbL9
            refine r_iast (ws' := W_Mo (z_g x) a0 o0 (s5.2.1) (gMo_told v0) (gMo_postX v0) (gMo_postStrong v0) (gMo_atRow v0) (gMo_heights v0) (gMo_ship v0) (gMo_lines v0) (upd (s5.2.2) (ix ((s5.2.1) 11)) z11) (gMo_said v0) (gMo_readTold v0) (gMo_readX v0) (gMo_readStrong v0) (gMo_readRow v0) (gMo_parting v0) (gMo_wasShip v0) (gMo_wasLines v0) (gMo_worst v0) (gMo_logRow v0) (gMo_images v0) (gMo_isKept v0)) C eX11_feed_60 8 rfl (inb_in hb12) rfl ?_
            refine r_aload_n C eX11_feed_61 0 rfl rfl ?_
            refine r_dup C eX11_feed_62 rfl ?_
            refine r_get (v := .int ((s5.2.1) 11)) C eX11_feed_63 FX11_91 0 rfl rfl ?_
            refine r_iconst C (v := 1) eX11_feed_66 (by decide) ?_
            refine r_iadd C eX11_feed_67 ?_
            obtain ⟨z13, hz13, hbL9⟩ := zlet_of hbL9
            refine r_nami hz13 ?_
            refine r_put (ws' := W_Mo (z_g x) a0 o0 (upd (s5.2.1) 11 z13) (gMo_told v0) (gMo_postX v0) (gMo_postStrong v0) (gMo_atRow v0) (gMo_heights v0) (gMo_ship v0) (gMo_lines v0) (upd (s5.2.2) (ix ((s5.2.1) 11)) z11) (gMo_said v0) (gMo_readTold v0) (gMo_readX v0) (gMo_readStrong v0) (gMo_readRow v0) (gMo_parting v0) (gMo_wasShip v0) (gMo_wasLines v0) (gMo_worst v0) (gMo_logRow v0) (gMo_images v0) (gMo_isKept v0)) C eX11_feed_68 PX11_91 0 rfl rfl rfl (Nat.le_of_ble_eq_true rfl) rfl ?_
            refine r_iinc C (v := ((s5.1) + (-1))) [(4, .int ((s5.1) + (-1))), (0, .ref (a0 o0)), (2, .long p2)] eX11_feed_71 2 rfl rfl (by decide) rfl ?_
            refine r_goto C eX11_feed_74 ?_
            refine r_sub (lv' := [(0, .ref (a0 o0)), (2, .long p2), (4, .int ((s5.1) + (-1)))]) [1, 2, 0] rfl ?_
            have hc := ihL9 (((s5.1) + (-1)), (upd (s5.2.1) 11 z13), (upd (s5.2.2) (ix ((s5.2.1) 11)) z11)) hbL9
            exact hc
      refine r_sub (lv' := [(0, .ref (a0 o0)), (2, .long p2), (4, .int z4)]) [1, 3, 0] rfl ?_
      have hc := L9 LF (z4, (gMo_ints v0), (gMo_text v0)) h7
      exact hc
    · rw [if_neg c3] at hf
      refine r_ldc C (v := (-1000000004)) eX11_feed_27 q1184 ?_
      obtain rfl := Option.some.inj (show some (((-1000000004), (gMo_ints v0), (gMo_text v0)) : Int32 × (Nat → Int32) × (Nat → Int32)) = some _ from hf)
      exact hret _ _ _ eX11_feed_29
  · rw [if_pos c2] at hf
    refine r_ldc C (v := (-1000000002)) eX11_feed_12 q1183 ?_
    obtain rfl := Option.some.inj (show some (((-1000000002), (gMo_ints v0), (gMo_text v0)) : Int32 × (Nat → Int32) × (Nat → Int32)) = some _ from hf)
    exact hret _ _ _ eX11_feed_14
theorem eX11_follow_0 : zd 1 cX11_follow 0 1 (.iload_n 1) := ⟨by decide +kernel, rfl⟩
theorem eX11_follow_1 : zd 1 cX11_follow 1 2 (.i2l) := ⟨by decide +kernel, rfl⟩
theorem eX11_follow_2 : zd 1 cX11_follow 2 3 (.lconst 1) := ⟨by decide +kernel, rfl⟩
theorem eX11_follow_3 : zd 3 cX11_follow 3 6 (.ldc2_w 310) := ⟨by decide +kernel, rfl⟩
theorem eX11_follow_6 : zd 3 cX11_follow 6 9 (.invokestatic 86) := ⟨by decide +kernel, rfl⟩
theorem eX11_follow_9 : zdi cX11_follow 9 12 20 (.ifCond .eq) := ⟨11, by decide +kernel, rfl, by decide⟩
theorem eX11_follow_12 : zd 1 cX11_follow 12 13 (.aload_n 0) := ⟨by decide +kernel, rfl⟩
theorem eX11_follow_13 : zd 1 cX11_follow 13 14 (.iload_n 1) := ⟨by decide +kernel, rfl⟩
theorem eX11_follow_14 : zd 3 cX11_follow 14 17 (.invokevirtual 318) := ⟨by decide +kernel, rfl⟩
theorem eX11_follow_17 : zdi cX11_follow 17 20 22 (.goto) := ⟨5, by decide +kernel, rfl, by decide⟩
theorem eX11_follow_20 : zd 2 cX11_follow 20 22 (.ldc 90) := ⟨by decide +kernel, rfl⟩
theorem eX11_follow_22 : zd 1 cX11_follow 22 23 (.ireturn) := ⟨by decide +kernel, rfl⟩
theorem MX11_318 : zlV RX11 318 yX11_byPlan cX11_byPlan 4 ((Option.some FieldType.int)) 1 := ⟨q1391, q1393, qs53, q12, q1394, by decide, by decide, by decide +kernel⟩
noncomputable def f_Mo_follow (v0 : tMo) (p1 : Int32) : Option (Int32 × (Nat → Int64) × (Nat → Int32) × (Nat → Int32)) := (if (f_Mo_in p1.toInt64 1 600) = 0 then (some ((-1000000002), (gMo_ship v0), (gMo_lines v0), (gMo_parting v0))) else (Option.bind (f_Mo_byPlan v0 p1) (fun (r3 : Int32 × (Nat → Int64) × (Nat → Int32) × (Nat → Int32)) => (some ((r3.1), (r3.2.1), (r3.2.2.1), (r3.2.2.2))))))
abbrev rm_Mo_follow : Room := { frames := 8, cells := 0, slots := 0, locals := 196 }
set_option maxHeartbeats 4000000 in
set_option maxRecDepth 100000 in
theorem c_Mo_follow (l : Launch) (g : zGl) (a0 : Nat → Nat) (o0 : Nat) (v0 : tMo) (p1 : Int32) (out : Int32 × (Nat → Int64) × (Nat → Int32) × (Nat → Int32)) (hf : f_Mo_follow v0 p1 = some out) : zMi l yX11_follow cX11_follow 2 rm_Mo_follow g [.ref (a0 o0), .int p1] (W_Mo g a0 o0 (gMo_ints v0) (gMo_told v0) (gMo_postX v0) (gMo_postStrong v0) (gMo_atRow v0) (gMo_heights v0) (gMo_ship v0) (gMo_lines v0) (gMo_text v0) (gMo_said v0) (gMo_readTold v0) (gMo_readX v0) (gMo_readStrong v0) (gMo_readRow v0) (gMo_parting v0) (gMo_wasShip v0) (gMo_wasLines v0) (gMo_worst v0) (gMo_logRow v0) (gMo_images v0) (gMo_isKept v0)) (out.1) (W_Mo g a0 o0 (gMo_ints v0) (gMo_told v0) (gMo_postX v0) (gMo_postStrong v0) (gMo_atRow v0) (gMo_heights v0) (out.2.1) (out.2.2.1) (gMo_text v0) (gMo_said v0) (gMo_readTold v0) (gMo_readX v0) (gMo_readStrong v0) (gMo_readRow v0) (out.2.2.2) (gMo_wasShip v0) (gMo_wasLines v0) (gMo_worst v0) (gMo_logRow v0) (gMo_images v0) (gMo_isKept v0)) := by
  refine zMi_of (lv := [(0, .ref (a0 o0)), (1, .int p1)]) (by decide) (Nat.le_of_ble_eq_true rfl) rfl (fun x hl hg C hret => ?_)
  subst hl; subst hg
  rw [f_Mo_follow] at hf
  refine r_iload_n C eX11_follow_0 1 rfl rfl ?_
  refine r_i2l C eX11_follow_1 ?_
  refine r_lconst C (v := 1) eX11_follow_2 (by decide) ?_
  refine r_ldc2 C (v := 600) eX11_follow_3 q1339 ?_
  refine r_S_z (ws' := W_Mo (z_g x) a0 o0 (gMo_ints v0) (gMo_told v0) (gMo_postX v0) (gMo_postStrong v0) (gMo_atRow v0) (gMo_heights v0) (gMo_ship v0) (gMo_lines v0) (gMo_text v0) (gMo_said v0) (gMo_readTold v0) (gMo_readX v0) (gMo_readStrong v0) (gMo_readRow v0) (gMo_parting v0) (gMo_wasShip v0) (gMo_wasLines v0) (gMo_worst v0) (gMo_logRow v0) (gMo_images v0) (gMo_isKept v0)) C (c_Mo_in (z_l x) (z_g x)  p1.toInt64 1 600 _ rfl) eX11_follow_6 MX11_86 [] rfl rfl rfl rfl [0, 1, 2, 3, 4, 5, 6, 7, 8, 9, 10, 11, 12, 13, 14, 15, 16, 17, 18, 19] rfl ⟨rfl, rfl, rfl, rfl, rfl, rfl, rfl, rfl, rfl, rfl, rfl, rfl, rfl, rfl, rfl, rfl, rfl, rfl, rfl, rfl, trivial⟩ 20 rfl rfl rfl rfl rfl rfl (fun zb1 => ?_)
  refine r_if_eq C eX11_follow_9 (fun c2 => ?_) (fun c2 => ?_)
  · rw [if_pos c2] at hf
    refine r_ldc C (v := (-1000000002)) eX11_follow_20 q1183 ?_
    obtain rfl := Option.some.inj (show some (((-1000000002), (gMo_ship v0), (gMo_lines v0), (gMo_parting v0)) : Int32 × (Nat → Int64) × (Nat → Int32) × (Nat → Int32)) = some _ from hf)
    exact hret _ _ _ eX11_follow_22
  · rw [if_neg c2] at hf
    refine r_aload_n C eX11_follow_12 0 rfl rfl ?_
    refine r_iload_n C eX11_follow_13 1 rfl rfl ?_
    obtain ⟨r3, hr3, hf⟩ := zbind hf
    refine r_V_i (ws' := W_Mo (z_g x) a0 o0 (gMo_ints v0) (gMo_told v0) (gMo_postX v0) (gMo_postStrong v0) (gMo_atRow v0) (gMo_heights v0) (r3.2.1) (r3.2.2.1) (gMo_text v0) (gMo_said v0) (gMo_readTold v0) (gMo_readX v0) (gMo_readStrong v0) (gMo_readRow v0) (r3.2.2.2) (gMo_wasShip v0) (gMo_wasLines v0) (gMo_worst v0) (gMo_logRow v0) (gMo_images v0) (gMo_isKept v0)) C (c_Mo_byPlan (z_l x) (z_g x) a0 o0 v0 p1 r3 hr3) eX11_follow_14 MX11_318 ⟨0, 11, _, _, rfl, rfl, rfl⟩ [0, 1, 2, 3, 4, 5, 6, 7, 8, 9, 10, 11, 12, 13, 14, 15, 16, 17, 18, 19] rfl rfl rfl rfl [] rfl trivial 20 rfl rfl rfl rfl rfl rfl ?_
    refine r_goto C eX11_follow_17 ?_
    obtain rfl := Option.some.inj (show some (((r3.1), (r3.2.1), (r3.2.2.1), (r3.2.2.2)) : Int32 × (Nat → Int64) × (Nat → Int32) × (Nat → Int32)) = some _ from hf)
    exact hret _ _ _ eX11_follow_22
theorem eX11_isSpan_0 : zd 1 cX11_isSpan 0 1 (.iload_n 0) := ⟨by decide +kernel, rfl⟩
theorem eX11_isSpan_1 : zd 1 cX11_isSpan 1 2 (.i2l) := ⟨by decide +kernel, rfl⟩
theorem eX11_isSpan_2 : zd 1 cX11_isSpan 2 3 (.lconst 1) := ⟨by decide +kernel, rfl⟩
theorem eX11_isSpan_3 : zd 3 cX11_isSpan 3 6 (.ldc2_w 241) := ⟨by decide +kernel, rfl⟩
theorem eX11_isSpan_6 : zd 3 cX11_isSpan 6 9 (.invokestatic 86) := ⟨by decide +kernel, rfl⟩
theorem eX11_isSpan_9 : zd 1 cX11_isSpan 9 10 (.ireturn) := ⟨by decide +kernel, rfl⟩
noncomputable def f_Mo_isSpan  (p1 : Int32) : Int32 := (f_Mo_in p1.toInt64 1 300)
abbrev rm_Mo_isSpan : Room := { frames := 1, cells := 0, slots := 0, locals := 25 }
set_option maxHeartbeats 4000000 in
set_option maxRecDepth 100000 in
theorem c_Mo_isSpan (l : Launch) (g : zGl)  (p1 : Int32) (out : Int32) (hf : f_Mo_isSpan p1 = out) : zMz l yX11_isSpan cX11_isSpan 1 rm_Mo_isSpan g [.int p1] ([]) out ([]) := by
  refine zMz_of (lv := [(0, .int p1)]) (by decide) (Nat.le_of_ble_eq_true rfl) rfl (fun x hl hg C hret => ?_)
  subst hl; subst hg
  rw [f_Mo_isSpan] at hf
  refine r_iload_n C eX11_isSpan_0 0 rfl rfl ?_
  refine r_i2l C eX11_isSpan_1 ?_
  refine r_lconst C (v := 1) eX11_isSpan_2 (by decide) ?_
  refine r_ldc2 C (v := 300) eX11_isSpan_3 q1325 ?_
  refine r_S_z (ws' := []) C (c_Mo_in (z_l x) (z_g x)  p1.toInt64 1 300 _ rfl) eX11_isSpan_6 MX11_86 [] rfl rfl rfl rfl [] rfl trivial 0 rfl rfl rfl rfl rfl rfl (fun zb1 => ?_)
  subst hf
  exact hret _ _ _ eX11_isSpan_9 zb1
theorem eX11_isIn_0 : zd 1 cX11_isIn 0 1 (.aload_n 0) := ⟨by decide +kernel, rfl⟩
theorem eX11_isIn_1 : zd 1 cX11_isIn 1 2 (.iload_n 1) := ⟨by decide +kernel, rfl⟩
theorem eX11_isIn_2 : zd 3 cX11_isIn 2 5 (.invokevirtual 318) := ⟨by decide +kernel, rfl⟩
theorem eX11_isIn_5 : zd 1 cX11_isIn 5 6 (.istore_n 2) := ⟨by decide +kernel, rfl⟩
theorem eX11_isIn_6 : zd 1 cX11_isIn 6 7 (.aload_n 0) := ⟨by decide +kernel, rfl⟩
theorem eX11_isIn_7 : zd 3 cX11_isIn 7 10 (.invokevirtual 296) := ⟨by decide +kernel, rfl⟩
theorem eX11_isIn_10 : zdi cX11_isIn 10 13 24 (.ifCond .eq) := ⟨14, by decide +kernel, rfl, by decide⟩
theorem eX11_isIn_13 : zd 1 cX11_isIn 13 14 (.aload_n 0) := ⟨by decide +kernel, rfl⟩
theorem eX11_isIn_14 : zd 3 cX11_isIn 14 17 (.invokevirtual 364) := ⟨by decide +kernel, rfl⟩
theorem eX11_isIn_17 : zdi cX11_isIn 17 20 24 (.ifCond .eq) := ⟨7, by decide +kernel, rfl, by decide⟩
theorem eX11_isIn_20 : zd 1 cX11_isIn 20 21 (.iconst 1) := ⟨by decide +kernel, rfl⟩
theorem eX11_isIn_21 : zdi cX11_isIn 21 24 25 (.goto) := ⟨4, by decide +kernel, rfl, by decide⟩
theorem eX11_isIn_24 : zd 1 cX11_isIn 24 25 (.iconst 0) := ⟨by decide +kernel, rfl⟩
theorem eX11_isIn_25 : zd 1 cX11_isIn 25 26 (.istore_n 3) := ⟨by decide +kernel, rfl⟩
theorem eX11_isIn_26 : zd 1 cX11_isIn 26 27 (.aload_n 0) := ⟨by decide +kernel, rfl⟩
theorem eX11_isIn_27 : zd 3 cX11_isIn 27 30 (.invokevirtual 359) := ⟨by decide +kernel, rfl⟩
theorem eX11_isIn_30 : zd 1 cX11_isIn 30 31 (.iload_n 3) := ⟨by decide +kernel, rfl⟩
theorem eX11_isIn_31 : zd 1 cX11_isIn 31 32 (.ireturn) := ⟨by decide +kernel, rfl⟩
noncomputable def f_Mo_isIn (v0 : tMo) (p1 : Int32) : Option (Int32 × (Nat → Int64) × (Nat → Int32) × (Nat → Int32)) := (Option.bind (f_Mo_byPlan v0 p1) (fun (r1 : Int32 × (Nat → Int64) × (Nat → Int32) × (Nat → Int32)) => (zlet (if (f_Mo_isSafe ((gMo_ints v0), (gMo_told v0), (gMo_postX v0), (gMo_postStrong v0), (gMo_atRow v0), (gMo_heights v0), (r1.2.1), (r1.2.2.1), (gMo_text v0), (gMo_said v0), (gMo_readTold v0), (gMo_readX v0), (gMo_readStrong v0), (gMo_readRow v0), (r1.2.2.2), (gMo_wasShip v0), (gMo_wasLines v0), (gMo_worst v0), (gMo_logRow v0), (gMo_images v0), (gMo_isKept v0))) = 0 then 0 else (if (f_Mo_isUnharmed ((gMo_ints v0), (gMo_told v0), (gMo_postX v0), (gMo_postStrong v0), (gMo_atRow v0), (gMo_heights v0), (r1.2.1), (r1.2.2.1), (gMo_text v0), (gMo_said v0), (gMo_readTold v0), (gMo_readX v0), (gMo_readStrong v0), (gMo_readRow v0), (r1.2.2.2), (gMo_wasShip v0), (gMo_wasLines v0), (gMo_worst v0), (gMo_logRow v0), (gMo_images v0), (gMo_isKept v0))) = 0 then 0 else 1)) (fun (w3 : Int32) => (Option.bind (f_Mo_back ((gMo_ints v0), (gMo_told v0), (gMo_postX v0), (gMo_postStrong v0), (gMo_atRow v0), (gMo_heights v0), (r1.2.1), (r1.2.2.1), (gMo_text v0), (gMo_said v0), (gMo_readTold v0), (gMo_readX v0), (gMo_readStrong v0), (gMo_readRow v0), (r1.2.2.2), (gMo_wasShip v0), (gMo_wasLines v0), (gMo_worst v0), (gMo_logRow v0), (gMo_images v0), (gMo_isKept v0))) (fun (r9 : (Nat → Int64) × (Nat → Int32)) => (some (w3, (r9.1), (r9.2), (r1.2.2.2)))))))))
abbrev rm_Mo_isIn : Room := { frames := 8, cells := 0, slots := 0, locals := 196 }
set_option maxHeartbeats 4000000 in
set_option maxRecDepth 100000 in
theorem c_Mo_isIn (l : Launch) (g : zGl) (a0 : Nat → Nat) (o0 : Nat) (v0 : tMo) (p1 : Int32) (out : Int32 × (Nat → Int64) × (Nat → Int32) × (Nat → Int32)) (hf : f_Mo_isIn v0 p1 = some out) : zMz l yX11_isIn cX11_isIn 4 rm_Mo_isIn g [.ref (a0 o0), .int p1] (W_Mo g a0 o0 (gMo_ints v0) (gMo_told v0) (gMo_postX v0) (gMo_postStrong v0) (gMo_atRow v0) (gMo_heights v0) (gMo_ship v0) (gMo_lines v0) (gMo_text v0) (gMo_said v0) (gMo_readTold v0) (gMo_readX v0) (gMo_readStrong v0) (gMo_readRow v0) (gMo_parting v0) (gMo_wasShip v0) (gMo_wasLines v0) (gMo_worst v0) (gMo_logRow v0) (gMo_images v0) (gMo_isKept v0)) (out.1) (W_Mo g a0 o0 (gMo_ints v0) (gMo_told v0) (gMo_postX v0) (gMo_postStrong v0) (gMo_atRow v0) (gMo_heights v0) (out.2.1) (out.2.2.1) (gMo_text v0) (gMo_said v0) (gMo_readTold v0) (gMo_readX v0) (gMo_readStrong v0) (gMo_readRow v0) (out.2.2.2) (gMo_wasShip v0) (gMo_wasLines v0) (gMo_worst v0) (gMo_logRow v0) (gMo_images v0) (gMo_isKept v0)) := by
  refine zMz_of (lv := [(0, .ref (a0 o0)), (1, .int p1)]) (by decide) (Nat.le_of_ble_eq_true rfl) rfl (fun x hl hg C hret => ?_)
  subst hl; subst hg
  rw [f_Mo_isIn] at hf
  refine r_aload_n C eX11_isIn_0 0 rfl rfl ?_
  refine r_iload_n C eX11_isIn_1 1 rfl rfl ?_
  obtain ⟨r1, hr1, hf⟩ := zbind hf
  refine r_V_i (ws' := W_Mo (z_g x) a0 o0 (gMo_ints v0) (gMo_told v0) (gMo_postX v0) (gMo_postStrong v0) (gMo_atRow v0) (gMo_heights v0) (r1.2.1) (r1.2.2.1) (gMo_text v0) (gMo_said v0) (gMo_readTold v0) (gMo_readX v0) (gMo_readStrong v0) (gMo_readRow v0) (r1.2.2.2) (gMo_wasShip v0) (gMo_wasLines v0) (gMo_worst v0) (gMo_logRow v0) (gMo_images v0) (gMo_isKept v0)) C (c_Mo_byPlan (z_l x) (z_g x) a0 o0 v0 p1 r1 hr1) eX11_isIn_2 MX11_318 ⟨0, 11, _, _, rfl, rfl, rfl⟩ [0, 1, 2, 3, 4, 5, 6, 7, 8, 9, 10, 11, 12, 13, 14, 15, 16, 17, 18, 19] rfl rfl rfl rfl [] rfl trivial 20 rfl rfl rfl rfl rfl rfl ?_
  refine r_istore_n C [(2, .int (r1.1)), (0, .ref (a0 o0)), (1, .int p1)] eX11_isIn_5 rfl (by decide) rfl ?_
  refine r_aload_n C eX11_isIn_6 1 rfl rfl ?_
  refine r_V_z (ws' := W_Mo (z_g x) a0 o0 (gMo_ints v0) (gMo_told v0) (gMo_postX v0) (gMo_postStrong v0) (gMo_atRow v0) (gMo_heights v0) (r1.2.1) (r1.2.2.1) (gMo_text v0) (gMo_said v0) (gMo_readTold v0) (gMo_readX v0) (gMo_readStrong v0) (gMo_readRow v0) (r1.2.2.2) (gMo_wasShip v0) (gMo_wasLines v0) (gMo_worst v0) (gMo_logRow v0) (gMo_images v0) (gMo_isKept v0)) C (c_Mo_isSafe (z_l x) (z_g x) a0 o0 ((gMo_ints v0), (gMo_told v0), (gMo_postX v0), (gMo_postStrong v0), (gMo_atRow v0), (gMo_heights v0), (r1.2.1), (r1.2.2.1), (gMo_text v0), (gMo_said v0), (gMo_readTold v0), (gMo_readX v0), (gMo_readStrong v0), (gMo_readRow v0), (r1.2.2.2), (gMo_wasShip v0), (gMo_wasLines v0), (gMo_worst v0), (gMo_logRow v0), (gMo_images v0), (gMo_isKept v0))  _ rfl) eX11_isIn_7 MX11_296 ⟨0, 11, _, _, rfl, rfl, rfl⟩ [0, 1, 2, 3, 4, 5, 6, 7, 8, 9, 10, 11, 12, 13, 14, 15, 16, 17, 18, 19] rfl rfl rfl rfl [] rfl trivial 20 rfl rfl rfl rfl rfl rfl (fun zb2 => ?_)
  obtain ⟨w3, hw3, hf⟩ := zlet_of hf
  have J4 : zB w3 → vV x 4 0 0 (W_Mo (z_g x) a0 o0 (gMo_ints v0) (gMo_told v0) (gMo_postX v0) (gMo_postStrong v0) (gMo_atRow v0) (gMo_heights v0) (r1.2.1) (r1.2.2.1) (gMo_text v0) (gMo_said v0) (gMo_readTold v0) (gMo_readX v0) (gMo_readStrong v0) (gMo_readRow v0) (r1.2.2.2) (gMo_wasShip v0) (gMo_wasLines v0) (gMo_worst v0) (gMo_logRow v0) (gMo_images v0) (gMo_isKept v0)) 25 [(0, .ref (a0 o0))] [.int w3] := by
    intro zb5
    refine r_istore_n C [(3, .int w3), (0, .ref (a0 o0))] eX11_isIn_25 rfl (by decide) rfl ?_
    refine r_aload_n C eX11_isIn_26 1 rfl rfl ?_
    obtain ⟨r9, hr9, hf⟩ := zbind hf
    refine r_V_v (ws' := W_Mo (z_g x) a0 o0 (gMo_ints v0) (gMo_told v0) (gMo_postX v0) (gMo_postStrong v0) (gMo_atRow v0) (gMo_heights v0) (r9.1) (r9.2) (gMo_text v0) (gMo_said v0) (gMo_readTold v0) (gMo_readX v0) (gMo_readStrong v0) (gMo_readRow v0) (r1.2.2.2) (gMo_wasShip v0) (gMo_wasLines v0) (gMo_worst v0) (gMo_logRow v0) (gMo_images v0) (gMo_isKept v0)) C (c_Mo_back (z_l x) (z_g x) a0 o0 ((gMo_ints v0), (gMo_told v0), (gMo_postX v0), (gMo_postStrong v0), (gMo_atRow v0), (gMo_heights v0), (r1.2.1), (r1.2.2.1), (gMo_text v0), (gMo_said v0), (gMo_readTold v0), (gMo_readX v0), (gMo_readStrong v0), (gMo_readRow v0), (r1.2.2.2), (gMo_wasShip v0), (gMo_wasLines v0), (gMo_worst v0), (gMo_logRow v0), (gMo_images v0), (gMo_isKept v0))  r9 hr9) eX11_isIn_27 MX11_359 ⟨0, 11, _, _, rfl, rfl, rfl⟩ [0, 1, 2, 3, 4, 5, 6, 7, 8, 9, 10, 11, 12, 13, 14, 15, 16, 17, 18, 19] rfl rfl rfl rfl [] rfl trivial 20 rfl rfl rfl rfl rfl rfl ?_
    refine r_iload_n C eX11_isIn_30 0 rfl rfl ?_
    obtain rfl := Option.some.inj (show some ((w3, (r9.1), (r9.2), (r1.2.2.2)) : Int32 × (Nat → Int64) × (Nat → Int32) × (Nat → Int32)) = some _ from hf)
    exact hret _ _ _ eX11_isIn_31 zb5
  refine r_if_eq C eX11_isIn_10 (fun c6 => ?_) (fun c6 => ?_)
  · rw [if_pos c6] at hw3
    refine r_iconst C (v := 0) eX11_isIn_24 (by decide) ?_
    subst hw3
    refine r_sub (lv' := [(0, .ref (a0 o0))]) [1] rfl ?_
    exact J4 zB0
  · rw [if_neg c6] at hw3
    refine r_aload_n C eX11_isIn_13 1 rfl rfl ?_
    refine r_V_z (ws' := W_Mo (z_g x) a0 o0 (gMo_ints v0) (gMo_told v0) (gMo_postX v0) (gMo_postStrong v0) (gMo_atRow v0) (gMo_heights v0) (r1.2.1) (r1.2.2.1) (gMo_text v0) (gMo_said v0) (gMo_readTold v0) (gMo_readX v0) (gMo_readStrong v0) (gMo_readRow v0) (r1.2.2.2) (gMo_wasShip v0) (gMo_wasLines v0) (gMo_worst v0) (gMo_logRow v0) (gMo_images v0) (gMo_isKept v0)) C (c_Mo_isUnharmed (z_l x) (z_g x) a0 o0 ((gMo_ints v0), (gMo_told v0), (gMo_postX v0), (gMo_postStrong v0), (gMo_atRow v0), (gMo_heights v0), (r1.2.1), (r1.2.2.1), (gMo_text v0), (gMo_said v0), (gMo_readTold v0), (gMo_readX v0), (gMo_readStrong v0), (gMo_readRow v0), (r1.2.2.2), (gMo_wasShip v0), (gMo_wasLines v0), (gMo_worst v0), (gMo_logRow v0), (gMo_images v0), (gMo_isKept v0))  _ rfl) eX11_isIn_14 MX11_364 ⟨0, 11, _, _, rfl, rfl, rfl⟩ [0, 1, 2, 3, 4, 5, 6, 7, 8, 9, 10, 11, 12, 13, 14, 15, 16, 17, 18, 19] rfl rfl rfl rfl [] rfl trivial 20 rfl rfl rfl rfl rfl rfl (fun zb7 => ?_)
    refine r_if_eq C eX11_isIn_17 (fun c8 => ?_) (fun c8 => ?_)
    · rw [if_pos c8] at hw3
      refine r_iconst C (v := 0) eX11_isIn_24 (by decide) ?_
      subst hw3
      refine r_sub (lv' := [(0, .ref (a0 o0))]) [1] rfl ?_
      exact J4 zB0
    · rw [if_neg c8] at hw3
      refine r_iconst C (v := 1) eX11_isIn_20 (by decide) ?_
      refine r_goto C eX11_isIn_21 ?_
      subst hw3
      refine r_sub (lv' := [(0, .ref (a0 o0))]) [1] rfl ?_
      exact J4 zB1
theorem eX11_gap_0 : zd 1 cX11_gap 0 1 (.iload_n 1) := ⟨by decide +kernel, rfl⟩
theorem eX11_gap_1 : zd 3 cX11_gap 1 4 (.invokestatic 373) := ⟨by decide +kernel, rfl⟩
theorem eX11_gap_4 : zdi cX11_gap 4 7 10 (.ifCond .ne) := ⟨6, by decide +kernel, rfl, by decide⟩
theorem eX11_gap_7 : zd 2 cX11_gap 7 9 (.ldc 90) := ⟨by decide +kernel, rfl⟩
theorem eX11_gap_9 : zd 1 cX11_gap 9 10 (.ireturn) := ⟨by decide +kernel, rfl⟩
theorem eX11_gap_10 : zd 1 cX11_gap 10 11 (.aload_n 0) := ⟨by decide +kernel, rfl⟩
theorem eX11_gap_11 : zd 3 cX11_gap 11 14 (.invokevirtual 356) := ⟨by decide +kernel, rfl⟩
theorem eX11_gap_14 : zd 1 cX11_gap 14 15 (.aload_n 0) := ⟨by decide +kernel, rfl⟩
theorem eX11_gap_15 : zd 3 cX11_gap 15 18 (.getfield 7) := ⟨by decide +kernel, rfl⟩
theorem eX11_gap_18 : zd 1 cX11_gap 18 19 (.iconst 0) := ⟨by decide +kernel, rfl⟩
theorem eX11_gap_19 : zd 1 cX11_gap 19 20 (.iaload) := ⟨by decide +kernel, rfl⟩
theorem eX11_gap_20 : zd 1 cX11_gap 20 21 (.istore_n 2) := ⟨by decide +kernel, rfl⟩
theorem eX11_gap_21 : zd 1 cX11_gap 21 22 (.iconst (-1)) := ⟨by decide +kernel, rfl⟩
theorem eX11_gap_22 : zd 1 cX11_gap 22 23 (.istore_n 3) := ⟨by decide +kernel, rfl⟩
theorem eX11_gap_23 : zd 1 cX11_gap 23 24 (.iload_n 2) := ⟨by decide +kernel, rfl⟩
theorem eX11_gap_24 : zd 2 cX11_gap 24 26 (.istore 4) := ⟨by decide +kernel, rfl⟩
theorem eX11_gap_26 : zd 2 cX11_gap 26 28 (.iload 4) := ⟨by decide +kernel, rfl⟩
theorem eX11_gap_28 : zd 1 cX11_gap 28 29 (.aload_n 0) := ⟨by decide +kernel, rfl⟩
theorem eX11_gap_29 : zd 3 cX11_gap 29 32 (.getfield 7) := ⟨by decide +kernel, rfl⟩
theorem eX11_gap_32 : zd 1 cX11_gap 32 33 (.iconst 1) := ⟨by decide +kernel, rfl⟩
theorem eX11_gap_33 : zd 1 cX11_gap 33 34 (.iaload) := ⟨by decide +kernel, rfl⟩
theorem eX11_gap_34 : zdi cX11_gap 34 37 73 (.if_icmp .ge) := ⟨39, by decide +kernel, rfl, by decide⟩
theorem eX11_gap_37 : zd 1 cX11_gap 37 38 (.aload_n 0) := ⟨by decide +kernel, rfl⟩
theorem eX11_gap_38 : zd 3 cX11_gap 38 41 (.getfield 7) := ⟨by decide +kernel, rfl⟩
theorem eX11_gap_41 : zd 1 cX11_gap 41 42 (.iconst 0) := ⟨by decide +kernel, rfl⟩
theorem eX11_gap_42 : zd 2 cX11_gap 42 44 (.iload 4) := ⟨by decide +kernel, rfl⟩
theorem eX11_gap_44 : zd 1 cX11_gap 44 45 (.iastore) := ⟨by decide +kernel, rfl⟩
theorem eX11_gap_45 : zd 1 cX11_gap 45 46 (.aload_n 0) := ⟨by decide +kernel, rfl⟩
theorem eX11_gap_46 : zd 1 cX11_gap 46 47 (.iload_n 1) := ⟨by decide +kernel, rfl⟩
theorem eX11_gap_47 : zd 3 cX11_gap 47 50 (.invokevirtual 376) := ⟨by decide +kernel, rfl⟩
theorem eX11_gap_50 : zdi cX11_gap 50 53 65 (.ifCond .eq) := ⟨15, by decide +kernel, rfl, by decide⟩
theorem eX11_gap_53 : zd 1 cX11_gap 53 54 (.aload_n 0) := ⟨by decide +kernel, rfl⟩
theorem eX11_gap_54 : zd 3 cX11_gap 54 57 (.getfield 7) := ⟨by decide +kernel, rfl⟩
theorem eX11_gap_57 : zd 1 cX11_gap 57 58 (.iconst 1) := ⟨by decide +kernel, rfl⟩
theorem eX11_gap_58 : zd 1 cX11_gap 58 59 (.iaload) := ⟨by decide +kernel, rfl⟩
theorem eX11_gap_59 : zd 2 cX11_gap 59 61 (.iload 4) := ⟨by decide +kernel, rfl⟩
theorem eX11_gap_61 : zd 1 cX11_gap 61 62 (.isub) := ⟨by decide +kernel, rfl⟩
theorem eX11_gap_62 : zdi cX11_gap 62 65 66 (.goto) := ⟨4, by decide +kernel, rfl, by decide⟩
theorem eX11_gap_65 : zd 1 cX11_gap 65 66 (.iload_n 3) := ⟨by decide +kernel, rfl⟩
theorem eX11_gap_66 : zd 1 cX11_gap 66 67 (.istore_n 3) := ⟨by decide +kernel, rfl⟩
theorem eX11_gap_67 : zd 3 cX11_gap 67 70 (.iinc 4 50) := ⟨by decide +kernel, rfl⟩
theorem eX11_gap_70 : zdi cX11_gap 70 73 26 (.goto) := ⟨(-44), by decide +kernel, rfl, by decide⟩
theorem eX11_gap_73 : zd 1 cX11_gap 73 74 (.aload_n 0) := ⟨by decide +kernel, rfl⟩
theorem eX11_gap_74 : zd 3 cX11_gap 74 77 (.getfield 7) := ⟨by decide +kernel, rfl⟩
theorem eX11_gap_77 : zd 1 cX11_gap 77 78 (.iconst 0) := ⟨by decide +kernel, rfl⟩
theorem eX11_gap_78 : zd 1 cX11_gap 78 79 (.iload_n 2) := ⟨by decide +kernel, rfl⟩
theorem eX11_gap_79 : zd 1 cX11_gap 79 80 (.iastore) := ⟨by decide +kernel, rfl⟩
theorem eX11_gap_80 : zd 1 cX11_gap 80 81 (.iload_n 3) := ⟨by decide +kernel, rfl⟩
theorem eX11_gap_81 : zd 1 cX11_gap 81 82 (.ireturn) := ⟨by decide +kernel, rfl⟩
theorem MX11_373 : zlS RX11 373 yX11_isSpan cX11_isSpan 1 ((Option.some FieldType.boolean)) 1 := ⟨q1491, q1492, q12, q1493, by decide, by decide, by decide +kernel⟩
theorem MX11_376 : zlV RX11 376 yX11_isIn cX11_isIn 4 ((Option.some FieldType.boolean)) 1 := ⟨q1494, q1496, qs63, q12, q1497, by decide, by decide, by decide +kernel⟩
noncomputable def fB_Mo_gap_26 (v0 : tMo) (p1 : Int32) (r3 : (Nat → Int64) × (Nat → Int32)) (ih : (Int32 × Int32 × (Nat → Int32) × (Nat → Int64) × (Nat → Int32) × (Nat → Int32)) → Option (Int32 × Int32 × (Nat → Int32) × (Nat → Int64) × (Nat → Int32) × (Nat → Int32))) (s4 : Int32 × Int32 × (Nat → Int32) × (Nat → Int64) × (Nat → Int32) × (Nat → Int32)) : Option (Int32 × Int32 × (Nat → Int32) × (Nat → Int64) × (Nat → Int32) × (Nat → Int32)) := (if ((s4.2.2.1) 1) ≤ (s4.2.1) then (some ((s4.1), (s4.2.1), (s4.2.2.1), (s4.2.2.2.1), (s4.2.2.2.2.1), (s4.2.2.2.2.2))) else (Option.bind (f_Mo_isIn ((gMo_ints v0), (upd (s4.2.2.1) 0 (s4.2.1)), (gMo_postX v0), (gMo_postStrong v0), (gMo_atRow v0), (gMo_heights v0), (s4.2.2.2.1), (s4.2.2.2.2.1), (gMo_text v0), (gMo_said v0), (gMo_readTold v0), (gMo_readX v0), (gMo_readStrong v0), (gMo_readRow v0), (s4.2.2.2.2.2), (r3.1), (r3.2), (gMo_worst v0), (gMo_logRow v0), (gMo_images v0), (gMo_isKept v0)) p1) (fun (r10 : Int32 × (Nat → Int64) × (Nat → Int32) × (Nat → Int32)) => (if (r10.1) = 0 then (ih ((s4.1), ((s4.2.1) + 50), (upd (s4.2.2.1) 0 (s4.2.1)), (r10.2.1), (r10.2.2.1), (r10.2.2.2))) else (zlet (((s4.2.2.1) 1) - (s4.2.1)) (fun (z13 : Int32) => (ih (z13, ((s4.2.1) + 50), (upd (s4.2.2.1) 0 (s4.2.1)), (r10.2.1), (r10.2.2.1), (r10.2.2.2)))))))))
noncomputable def f_Mo_gap (v0 : tMo) (p1 : Int32) : Option (Int32 × (Nat → Int32) × (Nat → Int64) × (Nat → Int32) × (Nat → Int32) × (Nat → Int64) × (Nat → Int32)) := (if (f_Mo_isSpan p1) = 0 then (some ((-1000000002), (gMo_told v0), (gMo_ship v0), (gMo_lines v0), (gMo_parting v0), (gMo_wasShip v0), (gMo_wasLines v0))) else (Option.bind (f_Mo_save v0) (fun (r3 : (Nat → Int64) × (Nat → Int32)) => (Option.bind (lp (fB_Mo_gap_26 v0 p1 r3) LF ((-1), ((gMo_told v0) 0), (gMo_told v0), (gMo_ship v0), (gMo_lines v0), (gMo_parting v0))) (fun (q5 : Int32 × Int32 × (Nat → Int32) × (Nat → Int64) × (Nat → Int32) × (Nat → Int32)) => (some ((q5.1), (upd (q5.2.2.1) 0 ((gMo_told v0) 0)), (q5.2.2.2.1), (q5.2.2.2.2.1), (q5.2.2.2.2.2), (r3.1), (r3.2))))))))
abbrev rm_Mo_gap : Room := { frames := 9, cells := 0, slots := 0, locals := 219 }
set_option maxHeartbeats 4000000 in
set_option maxRecDepth 100000 in
theorem c_Mo_gap (l : Launch) (g : zGl) (a0 : Nat → Nat) (o0 : Nat) (v0 : tMo) (p1 : Int32) (out : Int32 × (Nat → Int32) × (Nat → Int64) × (Nat → Int32) × (Nat → Int32) × (Nat → Int64) × (Nat → Int32)) (hf : f_Mo_gap v0 p1 = some out) : zMi l yX11_gap cX11_gap 5 rm_Mo_gap g [.ref (a0 o0), .int p1] (W_Mo g a0 o0 (gMo_ints v0) (gMo_told v0) (gMo_postX v0) (gMo_postStrong v0) (gMo_atRow v0) (gMo_heights v0) (gMo_ship v0) (gMo_lines v0) (gMo_text v0) (gMo_said v0) (gMo_readTold v0) (gMo_readX v0) (gMo_readStrong v0) (gMo_readRow v0) (gMo_parting v0) (gMo_wasShip v0) (gMo_wasLines v0) (gMo_worst v0) (gMo_logRow v0) (gMo_images v0) (gMo_isKept v0)) (out.1) (W_Mo g a0 o0 (gMo_ints v0) (out.2.1) (gMo_postX v0) (gMo_postStrong v0) (gMo_atRow v0) (gMo_heights v0) (out.2.2.1) (out.2.2.2.1) (gMo_text v0) (gMo_said v0) (gMo_readTold v0) (gMo_readX v0) (gMo_readStrong v0) (gMo_readRow v0) (out.2.2.2.2.1) (out.2.2.2.2.2.1) (out.2.2.2.2.2.2) (gMo_worst v0) (gMo_logRow v0) (gMo_images v0) (gMo_isKept v0)) := by
  refine zMi_of (lv := [(0, .ref (a0 o0)), (1, .int p1)]) (by decide) (Nat.le_of_ble_eq_true rfl) rfl (fun x hl hg C hret => ?_)
  subst hl; subst hg
  rw [f_Mo_gap] at hf
  refine r_iload_n C eX11_gap_0 1 rfl rfl ?_
  refine r_S_z (ws' := W_Mo (z_g x) a0 o0 (gMo_ints v0) (gMo_told v0) (gMo_postX v0) (gMo_postStrong v0) (gMo_atRow v0) (gMo_heights v0) (gMo_ship v0) (gMo_lines v0) (gMo_text v0) (gMo_said v0) (gMo_readTold v0) (gMo_readX v0) (gMo_readStrong v0) (gMo_readRow v0) (gMo_parting v0) (gMo_wasShip v0) (gMo_wasLines v0) (gMo_worst v0) (gMo_logRow v0) (gMo_images v0) (gMo_isKept v0)) C (c_Mo_isSpan (z_l x) (z_g x)  p1 _ rfl) eX11_gap_1 MX11_373 [] rfl rfl rfl rfl [0, 1, 2, 3, 4, 5, 6, 7, 8, 9, 10, 11, 12, 13, 14, 15, 16, 17, 18, 19] rfl ⟨rfl, rfl, rfl, rfl, rfl, rfl, rfl, rfl, rfl, rfl, rfl, rfl, rfl, rfl, rfl, rfl, rfl, rfl, rfl, rfl, trivial⟩ 20 rfl rfl rfl rfl rfl rfl (fun zb1 => ?_)
  refine r_if_ne C eX11_gap_4 (fun c2 => ?_) (fun c2 => ?_)
  · rw [if_neg c2] at hf
    refine r_aload_n C eX11_gap_10 0 rfl rfl ?_
    obtain ⟨r3, hr3, hf⟩ := zbind hf
    refine r_V_v (ws' := W_Mo (z_g x) a0 o0 (gMo_ints v0) (gMo_told v0) (gMo_postX v0) (gMo_postStrong v0) (gMo_atRow v0) (gMo_heights v0) (gMo_ship v0) (gMo_lines v0) (gMo_text v0) (gMo_said v0) (gMo_readTold v0) (gMo_readX v0) (gMo_readStrong v0) (gMo_readRow v0) (gMo_parting v0) (r3.1) (r3.2) (gMo_worst v0) (gMo_logRow v0) (gMo_images v0) (gMo_isKept v0)) C (c_Mo_save (z_l x) (z_g x) a0 o0 v0  r3 hr3) eX11_gap_11 MX11_356 ⟨0, 11, _, _, rfl, rfl, rfl⟩ [0, 1, 2, 3, 4, 5, 6, 7, 8, 9, 10, 11, 12, 13, 14, 15, 16, 17, 18, 19] rfl rfl rfl rfl [] rfl trivial 20 rfl rfl rfl rfl rfl rfl ?_
    refine r_aload_n C eX11_gap_14 0 rfl rfl ?_
    refine r_get (v := .ref (a0 (o0 + 1))) C eX11_gap_15 FX11_7 0 rfl rfl ?_
    refine r_iconst C (v := 0) eX11_gap_18 (by decide) ?_
    refine r_ialdN C eX11_gap_19 1 0 (by decide) rfl ((gMo_told v0) 0) rfl ?_
    refine r_istore_n C [(2, .int ((gMo_told v0) 0)), (0, .ref (a0 o0)), (1, .int p1)] eX11_gap_20 rfl (by decide) rfl ?_
    refine r_iconst C (v := (-1)) eX11_gap_21 (by decide) ?_
    refine r_istore_n C [(3, .int (-1)), (2, .int ((gMo_told v0) 0)), (0, .ref (a0 o0)), (1, .int p1)] eX11_gap_22 rfl (by decide) rfl ?_
    refine r_iload_n C eX11_gap_23 1 rfl rfl ?_
    refine r_istore C [(4, .int ((gMo_told v0) 0)), (3, .int (-1)), (2, .int ((gMo_told v0) 0)), (0, .ref (a0 o0)), (1, .int p1)] eX11_gap_24 (by decide) rfl ?_
    obtain ⟨q5, h6, hf⟩ := zbind hf
    have J7 : vV x 5 0 0 (W_Mo (z_g x) a0 o0 (gMo_ints v0) (q5.2.2.1) (gMo_postX v0) (gMo_postStrong v0) (gMo_atRow v0) (gMo_heights v0) (q5.2.2.2.1) (q5.2.2.2.2.1) (gMo_text v0) (gMo_said v0) (gMo_readTold v0) (gMo_readX v0) (gMo_readStrong v0) (gMo_readRow v0) (q5.2.2.2.2.2) (r3.1) (r3.2) (gMo_worst v0) (gMo_logRow v0) (gMo_images v0) (gMo_isKept v0)) 73 [(0, .ref (a0 o0)), (2, .int ((gMo_told v0) 0)), (3, .int (q5.1))] [] := by
      refine r_aload_n C eX11_gap_73 0 rfl rfl ?_
      refine r_get (v := .ref (a0 (o0 + 1))) C eX11_gap_74 FX11_7 0 rfl rfl ?_
      refine r_iconst C (v := 0) eX11_gap_77 (by decide) ?_
      refine r_iload_n C eX11_gap_78 1 rfl rfl ?_
      refine r_iastN (ws' := W_Mo (z_g x) a0 o0 (gMo_ints v0) (upd (q5.2.2.1) 0 ((gMo_told v0) 0)) (gMo_postX v0) (gMo_postStrong v0) (gMo_atRow v0) (gMo_heights v0) (q5.2.2.2.1) (q5.2.2.2.2.1) (gMo_text v0) (gMo_said v0) (gMo_readTold v0) (gMo_readX v0) (gMo_readStrong v0) (gMo_readRow v0) (q5.2.2.2.2.2) (r3.1) (r3.2) (gMo_worst v0) (gMo_logRow v0) (gMo_images v0) (gMo_isKept v0)) C eX11_gap_79 1 0 (by decide) rfl rfl ?_
      refine r_iload_n C eX11_gap_80 2 rfl rfl ?_
      obtain rfl := Option.some.inj (show some (((q5.1), (upd (q5.2.2.1) 0 ((gMo_told v0) 0)), (q5.2.2.2.1), (q5.2.2.2.2.1), (q5.2.2.2.2.2), (r3.1), (r3.2)) : Int32 × (Nat → Int32) × (Nat → Int64) × (Nat → Int32) × (Nat → Int32) × (Nat → Int64) × (Nat → Int32)) = some _ from hf)
      exact hret _ _ _ eX11_gap_81
    have L8 : ∀ (nL8 : Nat) (s4 : Int32 × Int32 × (Nat → Int32) × (Nat → Int64) × (Nat → Int32) × (Nat → Int32)), lp (fB_Mo_gap_26 v0 p1 r3) nL8 s4 = some q5 → vV x 5 0 0 (W_Mo (z_g x) a0 o0 (gMo_ints v0) (s4.2.2.1) (gMo_postX v0) (gMo_postStrong v0) (gMo_atRow v0) (gMo_heights v0) (s4.2.2.2.1) (s4.2.2.2.2.1) (gMo_text v0) (gMo_said v0) (gMo_readTold v0) (gMo_readX v0) (gMo_readStrong v0) (gMo_readRow v0) (s4.2.2.2.2.2) (r3.1) (r3.2) (gMo_worst v0) (gMo_logRow v0) (gMo_images v0) (gMo_isKept v0)) 26 [(0, .ref (a0 o0)), (1, .int p1), (2, .int ((gMo_told v0) 0)), (3, .int (s4.1)), (4, .int (s4.2.1))] [] := by
      intro nL8
      induction nL8 with
      | zero => intro s4 hq; cases hq
      | succ nL8 ihL8 =>
        intro s4 hbL8
        rw [lp_succ, fB_Mo_gap_26] at hbL8
        refine r_iload C eX11_gap_26 4 rfl ?_
        refine r_aload_n C eX11_gap_28 0 rfl rfl ?_
        refine r_get (v := .ref (a0 (o0 + 1))) C eX11_gap_29 FX11_7 0 rfl rfl ?_
        refine r_iconst C (v := 1) eX11_gap_32 (by decide) ?_
        refine r_ialdN C eX11_gap_33 1 1 (by decide) rfl ((s4.2.2.1) 1) rfl ?_
        refine r_icmp_ge C eX11_gap_34 (fun c9 => ?_) (fun c9 => ?_)
        · rw [if_pos c9] at hbL8
          obtain rfl := Option.some.inj hbL8
          refine r_sub (lv' := [(0, .ref (a0 o0)), (2, .int ((gMo_told v0) 0)), (3, .int (s4.1))]) [0, 2, 3] rfl ?_
          exact J7
        · rw [if_neg c9] at hbL8
          refine r_aload_n C eX11_gap_37 0 rfl rfl ?_
          refine r_get (v := .ref (a0 (o0 + 1))) C eX11_gap_38 FX11_7 0 rfl rfl ?_
          refine r_iconst C (v := 0) eX11_gap_41 (by decide) ?_
          refine r_iload C eX11_gap_42 4 rfl ?_
          refine r_iastN (ws' := W_Mo (z_g x) a0 o0 (gMo_ints v0) (upd (s4.2.2.1) 0 (s4.2.1)) (gMo_postX v0) (gMo_postStrong v0) (gMo_atRow v0) (gMo_heights v0) (s4.2.2.2.1) (s4.2.2.2.2.1) (gMo_text v0) (gMo_said v0) (gMo_readTold v0) (gMo_readX v0) (gMo_readStrong v0) (gMo_readRow v0) (s4.2.2.2.2.2) (r3.1) (r3.2) (gMo_worst v0) (gMo_logRow v0) (gMo_images v0) (gMo_isKept v0)) C eX11_gap_44 1 0 (by decide) rfl rfl ?_
          refine r_aload_n C eX11_gap_45 0 rfl rfl ?_
          refine r_iload_n C eX11_gap_46 1 rfl rfl ?_
          obtain ⟨r10, hr10, hbL8⟩ := zbind hbL8
          refine r_V_z (ws' := W_Mo (z_g x) a0 o0 (gMo_ints v0) (upd (s4.2.2.1) 0 (s4.2.1)) (gMo_postX v0) (gMo_postStrong v0) (gMo_atRow v0) (gMo_heights v0) (r10.2.1) (r10.2.2.1) (gMo_text v0) (gMo_said v0) (gMo_readTold v0) (gMo_readX v0) (gMo_readStrong v0) (gMo_readRow v0) (r10.2.2.2) (r3.1) (r3.2) (gMo_worst v0) (gMo_logRow v0) (gMo_images v0) (gMo_isKept v0)) C (c_Mo_isIn (z_l x) (z_g x) a0 o0 ((gMo_ints v0), (upd (s4.2.2.1) 0 (s4.2.1)), (gMo_postX v0), (gMo_postStrong v0), (gMo_atRow v0), (gMo_heights v0), (s4.2.2.2.1), (s4.2.2.2.2.1), (gMo_text v0), (gMo_said v0), (gMo_readTold v0), (gMo_readX v0), (gMo_readStrong v0), (gMo_readRow v0), (s4.2.2.2.2.2), (r3.1), (r3.2), (gMo_worst v0), (gMo_logRow v0), (gMo_images v0), (gMo_isKept v0)) p1 r10 hr10) eX11_gap_47 MX11_376 ⟨0, 11, _, _, rfl, rfl, rfl⟩ [0, 1, 2, 3, 4, 5, 6, 7, 8, 9, 10, 11, 12, 13, 14, 15, 16, 17, 18, 19] rfl rfl rfl rfl [] rfl trivial 20 rfl rfl rfl rfl rfl rfl (fun zb11 => ?_)
          refine r_if_eq C eX11_gap_50 (fun c12 => ?_) (fun c12 => ?_)
          · rw [if_pos c12] at hbL8
            refine r_iload_n C eX11_gap_65 3 rfl rfl ?_
            refine r_istore_n C [(3, .int (s4.1)), (0, .ref (a0 o0)), (1, .int p1), (2, .int ((gMo_told v0) 0)), (4, .int (s4.2.1))] eX11_gap_66 rfl (by decide) rfl ?_
            refine r_iinc C (v := ((s4.2.1) + 50)) [(4, .int ((s4.2.1) + 50)), (3, .int (s4.1)), (0, .ref (a0 o0)), (1, .int p1), (2, .int ((gMo_told v0) 0))] eX11_gap_67 4 rfl rfl (by decide) rfl ?_
            refine r_goto C eX11_gap_70 ?_
            refine r_sub (lv' := [(0, .ref (a0 o0)), (1, .int p1), (2, .int ((gMo_told v0) 0)), (3, .int (s4.1)), (4, .int ((s4.2.1) + 50))]) [2, 3, 4, 1, 0] rfl ?_
            have hc := ihL8 ((s4.1), ((s4.2.1) + 50), (upd (s4.2.2.1) 0 (s4.2.1)), (r10.2.1), (r10.2.2.1), (r10.2.2.2)) hbL8
            exact hc
          · rw [if_neg c12] at hbL8
            refine r_aload_n C eX11_gap_53 0 rfl rfl ?_
            refine r_get (v := .ref (a0 (o0 + 1))) C eX11_gap_54 FX11_7 0 rfl rfl ?_
            refine r_iconst C (v := 1) eX11_gap_57 (by decide) ?_
            refine r_ialdN C eX11_gap_58 1 1 (by decide) rfl ((s4.2.2.1) 1) rfl ?_
            refine r_iload C eX11_gap_59 4 rfl ?_
            refine r_isub C eX11_gap_61 ?_
            refine r_goto C eX11_gap_62 ?_
            obtain ⟨z13, hz13, hbL8⟩ := zlet_of hbL8
            refine r_nami hz13 ?_
            refine r_istore_n C [(3, .int z13), (0, .ref (a0 o0)), (1, .int p1), (2, .int ((gMo_told v0) 0)), (4, .int (s4.2.1))] eX11_gap_66 rfl (by decide) rfl ?_
            refine r_iinc C (v := ((s4.2.1) + 50)) [(4, .int ((s4.2.1) + 50)), (3, .int z13), (0, .ref (a0 o0)), (1, .int p1), (2, .int ((gMo_told v0) 0))] eX11_gap_67 4 rfl rfl (by decide) rfl ?_
            refine r_goto C eX11_gap_70 ?_
            refine r_sub (lv' := [(0, .ref (a0 o0)), (1, .int p1), (2, .int ((gMo_told v0) 0)), (3, .int z13), (4, .int ((s4.2.1) + 50))]) [2, 3, 4, 1, 0] rfl ?_
            have hc := ihL8 (z13, ((s4.2.1) + 50), (upd (s4.2.2.1) 0 (s4.2.1)), (r10.2.1), (r10.2.2.1), (r10.2.2.2)) hbL8
            exact hc
    refine r_sub (lv' := [(0, .ref (a0 o0)), (1, .int p1), (2, .int ((gMo_told v0) 0)), (3, .int (-1)), (4, .int ((gMo_told v0) 0))]) [3, 4, 2, 1, 0] rfl ?_
    have hc := L8 LF ((-1), ((gMo_told v0) 0), (gMo_told v0), (gMo_ship v0), (gMo_lines v0), (gMo_parting v0)) h6
    exact hc
  · rw [if_pos c2] at hf
    refine r_ldc C (v := (-1000000002)) eX11_gap_7 q1183 ?_
    obtain rfl := Option.some.inj (show some (((-1000000002), (gMo_told v0), (gMo_ship v0), (gMo_lines v0), (gMo_parting v0), (gMo_wasShip v0), (gMo_wasLines v0)) : Int32 × (Nat → Int32) × (Nat → Int64) × (Nat → Int32) × (Nat → Int32) × (Nat → Int64) × (Nat → Int32)) = some _ from hf)
    exact hret _ _ _ eX11_gap_9
