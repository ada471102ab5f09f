theorem eX11_isUnharmed_0 : zd 1 cX11_isUnharmed 0 1 (.aload_n 0) := ⟨by decide +kernel, rfl⟩
theorem eX11_isUnharmed_1 : zd 3 cX11_isUnharmed 1 4 (.getfield 25) := ⟨by decide +kernel, rfl⟩
theorem eX11_isUnharmed_4 : zd 2 cX11_isUnharmed 4 6 (.bipush 10) := ⟨by decide +kernel, rfl⟩
theorem eX11_isUnharmed_6 : zd 1 cX11_isUnharmed 6 7 (.laload) := ⟨by decide +kernel, rfl⟩
theorem eX11_isUnharmed_7 : zd 1 cX11_isUnharmed 7 8 (.aload_n 0) := ⟨by decide +kernel, rfl⟩
theorem eX11_isUnharmed_8 : zd 3 cX11_isUnharmed 8 11 (.getfield 54) := ⟨by decide +kernel, rfl⟩
theorem eX11_isUnharmed_11 : zd 2 cX11_isUnharmed 11 13 (.bipush 10) := ⟨by decide +kernel, rfl⟩
theorem eX11_isUnharmed_13 : zd 1 cX11_isUnharmed 13 14 (.laload) := ⟨by decide +kernel, rfl⟩
theorem eX11_isUnharmed_14 : zd 1 cX11_isUnharmed 14 15 (.lcmp) := ⟨by decide +kernel, rfl⟩
theorem eX11_isUnharmed_15 : zdi cX11_isUnharmed 15 18 22 (.ifCond .ne) := ⟨7, by decide +kernel, rfl, by decide⟩
theorem eX11_isUnharmed_18 : zd 1 cX11_isUnharmed 18 19 (.iconst 1) := ⟨by decide +kernel, rfl⟩
theorem eX11_isUnharmed_19 : zdi cX11_isUnharmed 19 22 23 (.goto) := ⟨4, by decide +kernel, rfl, by decide⟩
theorem eX11_isUnharmed_22 : zd 1 cX11_isUnharmed 22 23 (.iconst 0) := ⟨by decide +kernel, rfl⟩
theorem eX11_isUnharmed_23 : zd 1 cX11_isUnharmed 23 24 (.ireturn) := ⟨by decide +kernel, rfl⟩
noncomputable def f_Mo_isUnharmed (v0 : tMo)  : Int32 := (if ((gMo_ship v0) 10) = ((gMo_wasShip v0) 10) then 1 else 0)
abbrev rm_Mo_isUnharmed : Room := { frames := 0, cells := 0, slots := 0, locals := 0 }
set_option maxHeartbeats 4000000 in
set_option maxRecDepth 100000 in
theorem c_Mo_isUnharmed (l : Launch) (g : zGl) (a0 : Nat → Nat) (o0 : Nat) (v0 : tMo)  (out : Int32) (hf : f_Mo_isUnharmed v0 = out) : zMz l yX11_isUnharmed cX11_isUnharmed 1 rm_Mo_isUnharmed g [.ref (a0 o0)] (W_Mo g a0 o0 (gMo_ints v0) (gMo_told v0) (gMo_postX v0) (gMo_postStrong v0) (gMo_atRow v0) (gMo_heights v0) (gMo_ship v0) (gMo_lines v0) (gMo_text v0) (gMo_said v0) (gMo_readTold v0) (gMo_readX v0) (gMo_readStrong v0) (gMo_readRow v0) (gMo_parting v0) (gMo_wasShip v0) (gMo_wasLines v0) (gMo_worst v0) (gMo_logRow v0) (gMo_images v0) (gMo_isKept v0)) out (W_Mo g a0 o0 (gMo_ints v0) (gMo_told v0) (gMo_postX v0) (gMo_postStrong v0) (gMo_atRow v0) (gMo_heights v0) (gMo_ship v0) (gMo_lines v0) (gMo_text v0) (gMo_said v0) (gMo_readTold v0) (gMo_readX v0) (gMo_readStrong v0) (gMo_readRow v0) (gMo_parting v0) (gMo_wasShip v0) (gMo_wasLines v0) (gMo_worst v0) (gMo_logRow v0) (gMo_images v0) (gMo_isKept v0)) := by
  refine zMz_of (lv := [(0, .ref (a0 o0))]) (by decide) (Nat.le_of_ble_eq_true rfl) rfl (fun x hl hg C hret => ?_)
  subst hl; subst hg
  rw [f_Mo_isUnharmed] at hf
  refine r_aload_n C eX11_isUnharmed_0 0 rfl rfl ?_
  refine r_get (v := .ref (a0 (o0 + 6))) C eX11_isUnharmed_1 FX11_25 0 rfl rfl ?_
  refine r_bipush C (v := 10) eX11_isUnharmed_4 (by decide) ?_
  refine r_laldN C eX11_isUnharmed_6 6 10 (by decide) rfl ((gMo_ship v0) 10) rfl ?_
  refine r_aload_n C eX11_isUnharmed_7 0 rfl rfl ?_
  refine r_get (v := .ref (a0 (o0 + 14))) C eX11_isUnharmed_8 FX11_54 0 rfl rfl ?_
  refine r_bipush C (v := 10) eX11_isUnharmed_11 (by decide) ?_
  refine r_laldN C eX11_isUnharmed_13 14 10 (by decide) rfl ((gMo_wasShip v0) 10) rfl ?_
  refine r_lcmp_ne C eX11_isUnharmed_14 eX11_isUnharmed_15 (fun c1 => ?_) (fun c1 => ?_)
  · rw [if_neg c1] at hf
    refine r_iconst C (v := 0) eX11_isUnharmed_22 (by decide) ?_
    subst hf
    exact hret _ _ _ eX11_isUnharmed_23 zB0
  · rw [if_pos c1] at hf
    refine r_iconst C (v := 1) eX11_isUnharmed_18 (by decide) ?_
    refine r_goto C eX11_isUnharmed_19 ?_
    subst hf
    exact hret _ _ _ eX11_isUnharmed_23 zB1
theorem eX11_isAstern_0 : zd 1 cX11_isAstern 0 1 (.iconst 0) := ⟨by decide +kernel, rfl⟩
theorem eX11_isAstern_1 : zd 1 cX11_isAstern 1 2 (.istore_n 2) := ⟨by decide +kernel, rfl⟩
theorem eX11_isAstern_2 : zd 1 cX11_isAstern 2 3 (.iconst 0) := ⟨by decide +kernel, rfl⟩
theorem eX11_isAstern_3 : zd 1 cX11_isAstern 3 4 (.istore_n 3) := ⟨by decide +kernel, rfl⟩
theorem eX11_isAstern_4 : zd 1 cX11_isAstern 4 5 (.iload_n 3) := ⟨by decide +kernel, rfl⟩
theorem eX11_isAstern_5 : zd 1 cX11_isAstern 5 6 (.iload_n 1) := ⟨by decide +kernel, rfl⟩
theorem eX11_isAstern_6 : zdi cX11_isAstern 6 9 22 (.if_icmp .ge) := ⟨16, by decide +kernel, rfl, by decide⟩
theorem eX11_isAstern_9 : zd 1 cX11_isAstern 9 10 (.iload_n 2) := ⟨by decide +kernel, rfl⟩
theorem eX11_isAstern_10 : zd 1 cX11_isAstern 10 11 (.aload_n 0) := ⟨by decide +kernel, rfl⟩
theorem eX11_isAstern_11 : zd 3 cX11_isAstern 11 14 (.invokevirtual 312) := ⟨by decide +kernel, rfl⟩
theorem eX11_isAstern_14 : zd 1 cX11_isAstern 14 15 (.iadd) := ⟨by decide +kernel, rfl⟩
theorem eX11_isAstern_15 : zd 1 cX11_isAstern 15 16 (.istore_n 2) := ⟨by decide +kernel, rfl⟩
theorem eX11_isAstern_16 : zd 3 cX11_isAstern 16 19 (.iinc 3 1) := ⟨by decide +kernel, rfl⟩
theorem eX11_isAstern_19 : zdi cX11_isAstern 19 22 4 (.goto) := ⟨(-15), by decide +kernel, rfl, by decide⟩
theorem eX11_isAstern_22 : zd 1 cX11_isAstern 22 23 (.iconst 0) := ⟨by decide +kernel, rfl⟩
theorem eX11_isAstern_23 : zd 1 cX11_isAstern 23 24 (.istore_n 3) := ⟨by decide +kernel, rfl⟩
theorem eX11_isAstern_24 : zd 1 cX11_isAstern 24 25 (.iconst 0) := ⟨by decide +kernel, rfl⟩
theorem eX11_isAstern_25 : zd 2 cX11_isAstern 25 27 (.istore 4) := ⟨by decide +kernel, rfl⟩
theorem eX11_isAstern_27 : zd 2 cX11_isAstern 27 29 (.iload 4) := ⟨by decide +kernel, rfl⟩
theorem eX11_isAstern_29 : zd 2 cX11_isAstern 29 31 (.bipush 60) := ⟨by decide +kernel, rfl⟩
theorem eX11_isAstern_31 : zdi cX11_isAstern 31 34 94 (.if_icmp .ge) := ⟨63, by decide +kernel, rfl, by decide⟩
theorem eX11_isAstern_34 : zd 1 cX11_isAstern 34 35 (.iload_n 3) := ⟨by decide +kernel, rfl⟩
theorem eX11_isAstern_35 : zdi cX11_isAstern 35 38 49 (.ifCond .ne) := ⟨14, by decide +kernel, rfl, by decide⟩
theorem eX11_isAstern_38 : zd 1 cX11_isAstern 38 39 (.aload_n 0) := ⟨by decide +kernel, rfl⟩
theorem eX11_isAstern_39 : zd 3 cX11_isAstern 39 42 (.getfield 25) := ⟨by decide +kernel, rfl⟩
theorem eX11_isAstern_42 : zd 1 cX11_isAstern 42 43 (.iconst 3) := ⟨by decide +kernel, rfl⟩
theorem eX11_isAstern_43 : zd 1 cX11_isAstern 43 44 (.laload) := ⟨by decide +kernel, rfl⟩
theorem eX11_isAstern_44 : zd 1 cX11_isAstern 44 45 (.lconst 0) := ⟨by decide +kernel, rfl⟩
theorem eX11_isAstern_45 : zd 1 cX11_isAstern 45 46 (.lcmp) := ⟨by decide +kernel, rfl⟩
theorem eX11_isAstern_46 : zdi cX11_isAstern 46 49 53 (.ifCond .gt) := ⟨7, by decide +kernel, rfl, by decide⟩
theorem eX11_isAstern_49 : zd 1 cX11_isAstern 49 50 (.iconst 1) := ⟨by decide +kernel, rfl⟩
theorem eX11_isAstern_50 : zdi cX11_isAstern 50 53 54 (.goto) := ⟨4, by decide +kernel, rfl, by decide⟩
theorem eX11_isAstern_53 : zd 1 cX11_isAstern 53 54 (.iconst 0) := ⟨by decide +kernel, rfl⟩
theorem eX11_isAstern_54 : zd 1 cX11_isAstern 54 55 (.istore_n 3) := ⟨by decide +kernel, rfl⟩
theorem eX11_isAstern_55 : zd 1 cX11_isAstern 55 56 (.aload_n 0) := ⟨by decide +kernel, rfl⟩
theorem eX11_isAstern_56 : zd 3 cX11_isAstern 56 59 (.getfield 25) := ⟨by decide +kernel, rfl⟩
theorem eX11_isAstern_59 : zd 2 cX11_isAstern 59 61 (.bipush 6) := ⟨by decide +kernel, rfl⟩
theorem eX11_isAstern_61 : zd 1 cX11_isAstern 61 62 (.iload_n 3) := ⟨by decide +kernel, rfl⟩
theorem eX11_isAstern_62 : zdi cX11_isAstern 62 65 69 (.ifCond .eq) := ⟨7, by decide +kernel, rfl, by decide⟩
theorem eX11_isAstern_65 : zd 1 cX11_isAstern 65 66 (.lconst 0) := ⟨by decide +kernel, rfl⟩
theorem eX11_isAstern_66 : zdi cX11_isAstern 66 69 72 (.goto) := ⟨6, by decide +kernel, rfl, by decide⟩
theorem eX11_isAstern_69 : zd 3 cX11_isAstern 69 72 (.ldc2_w 362) := ⟨by decide +kernel, rfl⟩
theorem eX11_isAstern_72 : zd 1 cX11_isAstern 72 73 (.lastore) := ⟨by decide +kernel, rfl⟩
theorem eX11_isAstern_73 : zd 1 cX11_isAstern 73 74 (.aload_n 0) := ⟨by decide +kernel, rfl⟩
theorem eX11_isAstern_74 : zd 3 cX11_isAstern 74 77 (.getfield 25) := ⟨by decide +kernel, rfl⟩
theorem eX11_isAstern_77 : zd 2 cX11_isAstern 77 79 (.bipush 7) := ⟨by decide +kernel, rfl⟩
theorem eX11_isAstern_79 : zd 1 cX11_isAstern 79 80 (.lconst 0) := ⟨by decide +kernel, rfl⟩
theorem eX11_isAstern_80 : zd 1 cX11_isAstern 80 81 (.lastore) := ⟨by decide +kernel, rfl⟩
theorem eX11_isAstern_81 : zd 1 cX11_isAstern 81 82 (.iload_n 2) := ⟨by decide +kernel, rfl⟩
theorem eX11_isAstern_82 : zd 1 cX11_isAstern 82 83 (.aload_n 0) := ⟨by decide +kernel, rfl⟩
theorem eX11_isAstern_83 : zd 3 cX11_isAstern 83 86 (.invokevirtual 312) := ⟨by decide +kernel, rfl⟩
theorem eX11_isAstern_86 : zd 1 cX11_isAstern 86 87 (.iadd) := ⟨by decide +kernel, rfl⟩
theorem eX11_isAstern_87 : zd 1 cX11_isAstern 87 88 (.istore_n 2) := ⟨by decide +kernel, rfl⟩
theorem eX11_isAstern_88 : zd 3 cX11_isAstern 88 91 (.iinc 4 1) := ⟨by decide +kernel, rfl⟩
theorem eX11_isAstern_91 : zdi cX11_isAstern 91 94 27 (.goto) := ⟨(-64), by decide +kernel, rfl, by decide⟩
theorem eX11_isAstern_94 : zd 1 cX11_isAstern 94 95 (.aload_n 0) := ⟨by decide +kernel, rfl⟩
theorem eX11_isAstern_95 : zd 3 cX11_isAstern 95 98 (.invokevirtual 296) := ⟨by decide +kernel, rfl⟩
theorem eX11_isAstern_98 : zdi cX11_isAstern 98 101 112 (.ifCond .eq) := ⟨14, by decide +kernel, rfl, by decide⟩
theorem eX11_isAstern_101 : zd 1 cX11_isAstern 101 102 (.aload_n 0) := ⟨by decide +kernel, rfl⟩
theorem eX11_isAstern_102 : zd 3 cX11_isAstern 102 105 (.invokevirtual 364) := ⟨by decide +kernel, rfl⟩
theorem eX11_isAstern_105 : zdi cX11_isAstern 105 108 112 (.ifCond .eq) := ⟨7, by decide +kernel, rfl, by decide⟩
theorem eX11_isAstern_108 : zd 1 cX11_isAstern 108 109 (.iconst 1) := ⟨by decide +kernel, rfl⟩
theorem eX11_isAstern_109 : zdi cX11_isAstern 109 112 113 (.goto) := ⟨4, by decide +kernel, rfl, by decide⟩
theorem eX11_isAstern_112 : zd 1 cX11_isAstern 112 113 (.iconst 0) := ⟨by decide +kernel, rfl⟩
theorem eX11_isAstern_113 : zd 1 cX11_isAstern 113 114 (.ireturn) := ⟨by decide +kernel, rfl⟩
theorem MX11_296 : zlV RX11 296 yX11_isSafe cX11_isSafe 3 ((Option.some FieldType.boolean)) 0 := ⟨q1317, q1319, qs42, q12, q1320, by decide, by decide, by decide +kernel⟩
theorem MX11_312 : zlV RX11 312 yX11_second cX11_second 2 ((Option.some FieldType.int)) 0 := ⟨q1340, q1342, qs45, q12, q1343, by decide, by decide, by decide +kernel⟩
theorem MX11_364 : zlV RX11 364 yX11_isUnharmed cX11_isUnharmed 1 ((Option.some FieldType.boolean)) 0 := ⟨q1475, q1477, qs61, q12, q1478, by decide, by decide, by decide +kernel⟩
noncomputable def fB_Mo_isAstern_4 (v0 : tMo) (p1 : Int32) (ih : (Int32 × Int32 × (Nat → Int64) × (Nat → Int32) × (Nat → Int32)) → Option (Int32 × Int32 × (Nat → Int64) × (Nat → Int32) × (Nat → Int32))) (s1 : Int32 × Int32 × (Nat → Int64) × (Nat → Int32) × (Nat → Int32)) : Option (Int32 × Int32 × (Nat → Int64) × (Nat → Int32) × (Nat → Int32)) := (if p1 ≤ (s1.2.1) then (some ((s1.1), (s1.2.1), (s1.2.2.1), (s1.2.2.2.1), (s1.2.2.2.2))) else (Option.bind (f_Mo_second ((gMo_ints v0), (gMo_told v0), (gMo_postX v0), (gMo_postStrong v0), (gMo_atRow v0), (gMo_heights v0), (s1.2.2.1), (s1.2.2.2.1), (gMo_text v0), (gMo_said v0), (gMo_readTold v0), (gMo_readX v0), (gMo_readStrong v0), (gMo_readRow v0), (s1.2.2.2.2), (gMo_wasShip v0), (gMo_wasLines v0), (gMo_worst v0), (gMo_logRow v0), (gMo_images v0), (gMo_isKept v0))) (fun (r7 : Int32 × (Nat → Int64) × (Nat → Int32) × (Nat → Int32)) => (zlet ((s1.1) + (r7.1)) (fun (z8 : Int32) => (ih (z8, ((s1.2.1) + 1), (r7.2.1), (r7.2.2.1), (r7.2.2.2))))))))
noncomputable def fB_Mo_isAstern_27 (v0 : tMo) (ih : (Int32 × Int32 × Int32 × (Nat → Int64) × (Nat → Int32) × (Nat → Int32)) → Option (Int32 × Int32 × Int32 × (Nat → Int64) × (Nat → Int32) × (Nat → Int32))) (s9 : Int32 × Int32 × Int32 × (Nat → Int64) × (Nat → Int32) × (Nat → Int32)) : Option (Int32 × Int32 × Int32 × (Nat → Int64) × (Nat → Int32) × (Nat → Int32)) := (if 60 ≤ (s9.2.2.1) then (some ((s9.1), (s9.2.1), (s9.2.2.1), (s9.2.2.2.1), (s9.2.2.2.2.1), (s9.2.2.2.2.2))) else (zlet (if (s9.2.1) = 0 then (if 0 < ((s9.2.2.2.1) 3) then 0 else 1) else 1) (fun (w15 : Int32) => (zlet (if w15 = 0 then (-2) else 0) (fun (w20 : Int64) => (Option.bind (f_Mo_second ((gMo_ints v0), (gMo_told v0), (gMo_postX v0), (gMo_postStrong v0), (gMo_atRow v0), (gMo_heights v0), (vp_updL (vp_updL (s9.2.2.2.1) 6 w20) 7 0), (s9.2.2.2.2.1), (gMo_text v0), (gMo_said v0), (gMo_readTold v0), (gMo_readX v0), (gMo_readStrong v0), (gMo_readRow v0), (s9.2.2.2.2.2), (gMo_wasShip v0), (gMo_wasLines v0), (gMo_worst v0), (gMo_logRow v0), (gMo_images v0), (gMo_isKept v0))) (fun (r23 : Int32 × (Nat → Int64) × (Nat → Int32) × (Nat → Int32)) => (zlet ((s9.1) + (r23.1)) (fun (z24 : Int32) => (ih (z24, w15, ((s9.2.2.1) + 1), (r23.2.1), (r23.2.2.1), (r23.2.2.2))))))))))))
noncomputable def f_Mo_isAstern (v0 : tMo) (p1 : Int32) : Option (Int32 × (Nat → Int64) × (Nat → Int32) × (Nat → Int32)) := (Option.bind (lp (fB_Mo_isAstern_4 v0 p1) LF (0, 0, (gMo_ship v0), (gMo_lines v0), (gMo_parting v0))) (fun (q2 : Int32 × Int32 × (Nat → Int64) × (Nat → Int32) × (Nat → Int32)) => (Option.bind (lp (fB_Mo_isAstern_27 v0) LF ((q2.1), 0, 0, (q2.2.2.1), (q2.2.2.2.1), (q2.2.2.2.2))) (fun (q10 : Int32 × Int32 × Int32 × (Nat → Int64) × (Nat → Int32) × (Nat → Int32)) => (if (f_Mo_isSafe ((gMo_ints v0), (gMo_told v0), (gMo_postX v0), (gMo_postStrong v0), (gMo_atRow v0), (gMo_heights v0), (q10.2.2.2.1), (q10.2.2.2.2.1), (gMo_text v0), (gMo_said v0), (gMo_readTold v0), (gMo_readX v0), (gMo_readStrong v0), (gMo_readRow v0), (q10.2.2.2.2.2), (gMo_wasShip v0), (gMo_wasLines v0), (gMo_worst v0), (gMo_logRow v0), (gMo_images v0), (gMo_isKept v0))) = 0 then (some (0, (q10.2.2.2.1), (q10.2.2.2.2.1), (q10.2.2.2.2.2))) else (if (f_Mo_isUnharmed ((gMo_ints v0), (gMo_told v0), (gMo_postX v0), (gMo_postStrong v0), (gMo_atRow v0), (gMo_heights v0), (q10.2.2.2.1), (q10.2.2.2.2.1), (gMo_text v0), (gMo_said v0), (gMo_readTold v0), (gMo_readX v0), (gMo_readStrong v0), (gMo_readRow v0), (q10.2.2.2.2.2), (gMo_wasShip v0), (gMo_wasLines v0), (gMo_worst v0), (gMo_logRow v0), (gMo_images v0), (gMo_isKept v0))) = 0 then (some (0, (q10.2.2.2.1), (q10.2.2.2.2.1), (q10.2.2.2.2.2))) else (some (1, (q10.2.2.2.1), (q10.2.2.2.2.1), (q10.2.2.2.2.2)))))))))
abbrev rm_Mo_isAstern : Room := { frames := 7, cells := 0, slots := 0, locals := 173 }
set_option maxHeartbeats 4000000 in
set_option maxRecDepth 100000 in
theorem c_Mo_isAstern (l : Launch) (g : zGl) (a0 : Nat → Nat) (o0 : Nat) (v0 : tMo) (p1 : Int32) (out : Int32 × (Nat → Int64) × (Nat → Int32) × (Nat → Int32)) (hf : f_Mo_isAstern v0 p1 = some out) : zMz l yX11_isAstern cX11_isAstern 5 rm_Mo_isAstern g [.ref (a0 o0), .int p1] (W_Mo g a0 o0 (gMo_ints v0) (gMo_told v0) (gMo_postX v0) (gMo_postStrong v0) (gMo_atRow v0) (gMo_heights v0) (gMo_ship v0) (gMo_lines v0) (gMo_text v0) (gMo_said v0) (gMo_readTold v0) (gMo_readX v0) (gMo_readStrong v0) (gMo_readRow v0) (gMo_parting v0) (gMo_wasShip v0) (gMo_wasLines v0) (gMo_worst v0) (gMo_logRow v0) (gMo_images v0) (gMo_isKept v0)) (out.1) (W_Mo g a0 o0 (gMo_ints v0) (gMo_told v0) (gMo_postX v0) (gMo_postStrong v0) (gMo_atRow v0) (gMo_heights v0) (out.2.1) (out.2.2.1) (gMo_text v0) (gMo_said v0) (gMo_readTold v0) (gMo_readX v0) (gMo_readStrong v0) (gMo_readRow v0) (out.2.2.2) (gMo_wasShip v0) (gMo_wasLines v0) (gMo_worst v0) (gMo_logRow v0) (gMo_images v0) (gMo_isKept v0)) := by
  refine zMz_of (lv := [(0, .ref (a0 o0)), (1, .int p1)]) (by decide) (Nat.le_of_ble_eq_true rfl) rfl (fun x hl hg C hret => ?_)
  subst hl; subst hg
  rw [f_Mo_isAstern] at hf
  refine r_iconst C (v := 0) eX11_isAstern_0 (by decide) ?_
  refine r_istore_n C [(2, .int 0), (0, .ref (a0 o0)), (1, .int p1)] eX11_isAstern_1 rfl (by decide) rfl ?_
  refine r_iconst C (v := 0) eX11_isAstern_2 (by decide) ?_
  refine r_istore_n C [(3, .int 0), (2, .int 0), (0, .ref (a0 o0)), (1, .int p1)] eX11_isAstern_3 rfl (by decide) rfl ?_
  obtain ⟨q2, h3, hf⟩ := zbind hf
  have J4 : vV x 5 0 0 (W_Mo (z_g x) a0 o0 (gMo_ints v0) (gMo_told v0) (gMo_postX v0) (gMo_postStrong v0) (gMo_atRow v0) (gMo_heights v0) (q2.2.2.1) (q2.2.2.2.1) (gMo_text v0) (gMo_said v0) (gMo_readTold v0) (gMo_readX v0) (gMo_readStrong v0) (gMo_readRow v0) (q2.2.2.2.2) (gMo_wasShip v0) (gMo_wasLines v0) (gMo_worst v0) (gMo_logRow v0) (gMo_images v0) (gMo_isKept v0)) 22 [(0, .ref (a0 o0)), (2, .int (q2.1))] [] := by
    refine r_iconst C (v := 0) eX11_isAstern_22 (by decide) ?_
    refine r_istore_n C [(3, .int 0), (0, .ref (a0 o0)), (2, .int (q2.1))] eX11_isAstern_23 rfl (by decide) rfl ?_
    refine r_iconst C (v := 0) eX11_isAstern_24 (by decide) ?_
    refine r_istore C [(4, .int 0), (3, .int 0), (0, .ref (a0 o0)), (2, .int (q2.1))] eX11_isAstern_25 (by decide) rfl ?_
    obtain ⟨q10, h11, hf⟩ := zbind hf
    have J12 : vV x 5 0 0 (W_Mo (z_g x) a0 o0 (gMo_ints v0) (gMo_told v0) (gMo_postX v0) (gMo_postStrong v0) (gMo_atRow v0) (gMo_heights v0) (q10.2.2.2.1) (q10.2.2.2.2.1) (gMo_text v0) (gMo_said v0) (gMo_readTold v0) (gMo_readX v0) (gMo_readStrong v0) (gMo_readRow v0) (q10.2.2.2.2.2) (gMo_wasShip v0) (gMo_wasLines v0) (gMo_worst v0) (gMo_logRow v0) (gMo_images v0) (gMo_isKept v0)) 94 [(0, .ref (a0 o0))] [] := by
      refine r_aload_n C eX11_isAstern_94 0 rfl rfl ?_
      refine r_V_z (ws' := W_Mo (z_g x) a0 o0 (gMo_ints v0) (gMo_told v0) (gMo_postX v0) (gMo_postStrong v0) (gMo_atRow v0) (gMo_heights v0) (q10.2.2.2.1) (q10.2.2.2.2.1) (gMo_text v0) (gMo_said v0) (gMo_readTold v0) (gMo_readX v0) (gMo_readStrong v0) (gMo_readRow v0) (q10.2.2.2.2.2) (gMo_wasShip v0) (gMo_wasLines v0) (gMo_worst v0) (gMo_logRow v0) (gMo_images v0) (gMo_isKept v0)) C (c_Mo_isSafe (z_l x) (z_g x) a0 o0 ((gMo_ints v0), (gMo_told v0), (gMo_postX v0), (gMo_postStrong v0), (gMo_atRow v0), (gMo_heights v0), (q10.2.2.2.1), (q10.2.2.2.2.1), (gMo_text v0), (gMo_said v0), (gMo_readTold v0), (gMo_readX v0), (gMo_readStrong v0), (gMo_readRow v0), (q10.2.2.2.2.2), (gMo_wasShip v0), (gMo_wasLines v0), (gMo_worst v0), (gMo_logRow v0), (gMo_images v0), (gMo_isKept v0))  _ rfl) eX11_isAstern_95 MX11_296 ⟨0, 11, _, _, rfl, rfl, rfl⟩ [0, 1, 2, 3, 4, 5, 6, 7, 8, 9, 10, 11, 12, 13, 14, 15, 16, 17, 18, 19] rfl rfl rfl rfl [] rfl trivial 20 rfl rfl rfl rfl rfl rfl (fun zb25 => ?_)
      refine r_if_eq C eX11_isAstern_98 (fun c26 => ?_) (fun c26 => ?_)
      · rw [if_pos c26] at hf
        refine r_iconst C (v := 0) eX11_isAstern_112 (by decide) ?_
        obtain rfl := Option.some.inj (show some ((0, (q10.2.2.2.1), (q10.2.2.2.2.1), (q10.2.2.2.2.2)) : Int32 × (Nat → Int64) × (Nat → Int32) × (Nat → Int32)) = some _ from hf)
        exact hret _ _ _ eX11_isAstern_113 zB0
      · rw [if_neg c26] at hf
        refine r_aload_n C eX11_isAstern_101 0 rfl rfl ?_
        refine r_V_z (ws' := W_Mo (z_g x) a0 o0 (gMo_ints v0) (gMo_told v0) (gMo_postX v0) (gMo_postStrong v0) (gMo_atRow v0) (gMo_heights v0) (q10.2.2.2.1) (q10.2.2.2.2.1) (gMo_text v0) (gMo_said v0) (gMo_readTold v0) (gMo_readX v0) (gMo_readStrong v0) (gMo_readRow v0) (q10.2.2.2.2.2) (gMo_wasShip v0) (gMo_wasLines v0) (gMo_worst v0) (gMo_logRow v0) (gMo_images v0) (gMo_isKept v0)) C (c_Mo_isUnharmed (z_l x) (z_g x) a0 o0 ((gMo_ints v0), (gMo_told v0), (gMo_postX v0), (gMo_postStrong v0), (gMo_atRow v0), (gMo_heights v0), (q10.2.2.2.1), (q10.2.2.2.2.1), (gMo_text v0), (gMo_said v0), (gMo_readTold v0), (gMo_readX v0), (gMo_readStrong v0), (gMo_readRow v0), (q10.2.2.2.2.2), (gMo_wasShip v0), (gMo_wasLines v0), (gMo_worst v0), (gMo_logRow v0), (gMo_images v0), (gMo_isKept v0))  _ rfl) eX11_isAstern_102 MX11_364 ⟨0, 11, _, _, rfl, rfl, rfl⟩ [0, 1, 2, 3, 4, 5, 6, 7, 8, 9, 10, 11, 12, 13, 14, 15, 16, 17, 18, 19] rfl rfl rfl rfl [] rfl trivial 20 rfl rfl rfl rfl rfl rfl (fun zb27 => ?_)
        refine r_if_eq C eX11_isAstern_105 (fun c28 => ?_) (fun c28 => ?_)
        · rw [if_pos c28] at hf
          refine r_iconst C (v := 0) eX11_isAstern_112 (by decide) ?_
          obtain rfl := Option.some.inj (show some ((0, (q10.2.2.2.1), (q10.2.2.2.2.1), (q10.2.2.2.2.2)) : Int32 × (Nat → Int64) × (Nat → Int32) × (Nat → Int32)) = some _ from hf)
          exact hret _ _ _ eX11_isAstern_113 zB0
        · rw [if_neg c28] at hf
          refine r_iconst C (v := 1) eX11_isAstern_108 (by decide) ?_
          refine r_goto C eX11_isAstern_109 ?_
          obtain rfl := Option.some.inj (show some ((1, (q10.2.2.2.1), (q10.2.2.2.2.1), (q10.2.2.2.2.2)) : Int32 × (Nat → Int64) × (Nat → Int32) × (Nat → Int32)) = some _ from hf)
          exact hret _ _ _ eX11_isAstern_113 zB1
    have L13 : ∀ (nL13 : Nat) (s9 : Int32 × Int32 × Int32 × (Nat → Int64) × (Nat → Int32) × (Nat → Int32)), lp (fB_Mo_isAstern_27 v0) nL13 s9 = some q10 → vV x 5 0 0 (W_Mo (z_g x) a0 o0 (gMo_ints v0) (gMo_told v0) (gMo_postX v0) (gMo_postStrong v0) (gMo_atRow v0) (gMo_heights v0) (s9.2.2.2.1) (s9.2.2.2.2.1) (gMo_text v0) (gMo_said v0) (gMo_readTold v0) (gMo_readX v0) (gMo_readStrong v0) (gMo_readRow v0) (s9.2.2.2.2.2) (gMo_wasShip v0) (gMo_wasLines v0) (gMo_worst v0) (gMo_logRow v0) (gMo_images v0) (gMo_isKept v0)) 27 [(0, .ref (a0 o0)), (2, .int (s9.1)), (3, .int (s9.2.1)), (4, .int (s9.2.2.1))] [] := by
      intro nL13
      induction nL13 with
      | zero => intro s9 hq; cases hq
      | succ nL13 ihL13 =>
        intro s9 hbL13
        rw [lp_succ, fB_Mo_isAstern_27] at hbL13
        refine r_iload C eX11_isAstern_27 3 rfl ?_
        refine r_bipush C (v := 60) eX11_isAstern_29 (by decide) ?_
        refine r_icmp_ge C eX11_isAstern_31 (fun c14 => ?_) (fun c14 => ?_)
        · rw [if_pos c14] at hbL13
          obtain rfl := Option.some.inj hbL13
          refine r_sub (lv' := [(0, .ref (a0 o0))]) [0] rfl ?_
          exact J12
        · rw [if_neg c14] at hbL13
          refine r_iload_n C eX11_isAstern_34 2 rfl rfl ?_
          obtain ⟨w15, hw15, hbL13⟩ := zlet_of hbL13
          have J16 : zB w15 → vV x 5 0 0 (W_Mo (z_g x) a0 o0 (gMo_ints v0) (gMo_told v0) (gMo_postX v0) (gMo_postStrong v0) (gMo_atRow v0) (gMo_heights v0) (s9.2.2.2.1) (s9.2.2.2.2.1) (gMo_text v0) (gMo_said v0) (gMo_readTold v0) (gMo_readX v0) (gMo_readStrong v0) (gMo_readRow v0) (s9.2.2.2.2.2) (gMo_wasShip v0) (gMo_wasLines v0) (gMo_worst v0) (gMo_logRow v0) (gMo_images v0) (gMo_isKept v0)) 54 [(0, .ref (a0 o0)), (2, .int (s9.1)), (4, .int (s9.2.2.1))] [.int w15] := by
            intro zb17
            refine r_istore_n C [(3, .int w15), (0, .ref (a0 o0)), (2, .int (s9.1)), (4, .int (s9.2.2.1))] eX11_isAstern_54 rfl (by decide) rfl ?_
            refine r_aload_n C eX11_isAstern_55 1 rfl rfl ?_
            refine r_get (v := .ref (a0 (o0 + 6))) C eX11_isAstern_56 FX11_25 0 rfl rfl ?_
            refine r_bipush C (v := 6) eX11_isAstern_59 (by decide) ?_
            refine r_iload_n C eX11_isAstern_61 0 rfl rfl ?_
            obtain ⟨w20, hw20, hbL13⟩ := zlet_of hbL13
            have J21 : vV x 5 0 0 (W_Mo (z_g x) a0 o0 (gMo_ints v0) (gMo_told v0) (gMo_postX v0) (gMo_postStrong v0) (gMo_atRow v0) (gMo_heights v0) (s9.2.2.2.1) (s9.2.2.2.2.1) (gMo_text v0) (gMo_said v0) (gMo_readTold v0) (gMo_readX v0) (gMo_readStrong v0) (gMo_readRow v0) (s9.2.2.2.2.2) (gMo_wasShip v0) (gMo_wasLines v0) (gMo_worst v0) (gMo_logRow v0) (gMo_images v0) (gMo_isKept v0)) 72 [(0, .ref (a0 o0)), (2, .int (s9.1)), (3, .int w15), (4, .int (s9.2.2.1))] [.long w20, .int 6, .ref (a0 (o0 + 6))] := by
              refine r_lastN (ws' := W_Mo (z_g x) a0 o0 (gMo_ints v0) (gMo_told v0) (gMo_postX v0) (gMo_postStrong v0) (gMo_atRow v0) (gMo_heights v0) (vp_updL (s9.2.2.2.1) 6 w20) (s9.2.2.2.2.1) (gMo_text v0) (gMo_said v0) (gMo_readTold v0) (gMo_readX v0) (gMo_readStrong v0) (gMo_readRow v0) (s9.2.2.2.2.2) (gMo_wasShip v0) (gMo_wasLines v0) (gMo_worst v0) (gMo_logRow v0) (gMo_images v0) (gMo_isKept v0)) C eX11_isAstern_72 6 6 (by decide) rfl rfl ?_
              refine r_aload_n C eX11_isAstern_73 0 rfl rfl ?_
              refine r_get (v := .ref (a0 (o0 + 6))) C eX11_isAstern_74 FX11_25 0 rfl rfl ?_
              refine r_bipush C (v := 7) eX11_isAstern_77 (by decide) ?_
              refine r_lconst C (v := 0) eX11_isAstern_79 (by decide) ?_
              refine r_lastN (ws' := W_Mo (z_g x) a0 o0 (gMo_ints v0) (gMo_told v0) (gMo_postX v0) (gMo_postStrong v0) (gMo_atRow v0) (gMo_heights v0) (vp_updL (vp_updL (s9.2.2.2.1) 6 w20) 7 0) (s9.2.2.2.2.1) (gMo_text v0) (gMo_said v0) (gMo_readTold v0) (gMo_readX v0) (gMo_readStrong v0) (gMo_readRow v0) (s9.2.2.2.2.2) (gMo_wasShip v0) (gMo_wasLines v0) (gMo_worst v0) (gMo_logRow v0) (gMo_images v0) (gMo_isKept v0)) C eX11_isAstern_80 6 7 (by decide) rfl rfl ?_
              refine r_iload_n C eX11_isAstern_81 1 rfl rfl ?_
              refine r_aload_n C eX11_isAstern_82 0 rfl rfl ?_
              obtain ⟨r23, hr23, hbL13⟩ := zbind hbL13
              refine r_V_i (ws' := W_Mo (z_g x) a0 o0 (gMo_ints v0) (gMo_told v0) (gMo_postX v0) (gMo_postStrong v0) (gMo_atRow v0) (gMo_heights v0) (r23.2.1) (r23.2.2.1) (gMo_text v0) (gMo_said v0) (gMo_readTold v0) (gMo_readX v0) (gMo_readStrong v0) (gMo_readRow v0) (r23.2.2.2) (gMo_wasShip v0) (gMo_wasLines v0) (gMo_worst v0) (gMo_logRow v0) (gMo_images v0) (gMo_isKept v0)) C (c_Mo_second (z_l x) (z_g x) a0 o0 ((gMo_ints v0), (gMo_told v0), (gMo_postX v0), (gMo_postStrong v0), (gMo_atRow v0), (gMo_heights v0), (vp_updL (vp_updL (s9.2.2.2.1) 6 w20) 7 0), (s9.2.2.2.2.1), (gMo_text v0), (gMo_said v0), (gMo_readTold v0), (gMo_readX v0), (gMo_readStrong v0), (gMo_readRow v0), (s9.2.2.2.2.2), (gMo_wasShip v0), (gMo_wasLines v0), (gMo_worst v0), (gMo_logRow v0), (gMo_images v0), (gMo_isKept v0))  r23 hr23) eX11_isAstern_83 MX11_312 ⟨0, 11, _, _, rfl, rfl, rfl⟩ [0, 1, 2, 3, 4, 5, 6, 7, 8, 9, 10, 11, 12, 13, 14, 15, 16, 17, 18, 19] rfl rfl rfl rfl [] rfl trivial 20 rfl rfl rfl rfl rfl rfl ?_
              refine r_iadd C eX11_isAstern_86 ?_
              obtain ⟨z24, hz24, hbL13⟩ := zlet_of hbL13
              refine r_nami hz24 ?_
              refine r_istore_n C [(2, .int z24), (0, .ref (a0 o0)), (3, .int w15), (4, .int (s9.2.2.1))] eX11_isAstern_87 rfl (by decide) rfl ?_
              refine r_iinc C (v := ((s9.2.2.1) + 1)) [(4, .int ((s9.2.2.1) + 1)), (2, .int z24), (0, .ref (a0 o0)), (3, .int w15)] eX11_isAstern_88 3 rfl rfl (by decide) rfl ?_
              refine r_goto C eX11_isAstern_91 ?_
              refine r_sub (lv' := [(0, .ref (a0 o0)), (2, .int z24), (3, .int w15), (4, .int ((s9.2.2.1) + 1))]) [2, 1, 3, 0] rfl ?_
              have hc := ihL13 (z24, w15, ((s9.2.2.1) + 1), (r23.2.1), (r23.2.2.1), (r23.2.2.2)) hbL13
              exact hc
            refine r_if_eq C eX11_isAstern_62 (fun c22 => ?_) (fun c22 => ?_)
            · rw [if_pos c22] at hw20
              refine r_ldc2 C (v := (-2)) eX11_isAstern_69 q1474 ?_
              subst hw20
              refine r_sub (lv' := [(0, .ref (a0 o0)), (2, .int (s9.1)), (3, .int w15), (4, .int (s9.2.2.1))]) [1, 2, 0, 3] rfl ?_
              exact J21 
            · rw [if_neg c22] at hw20
              refine r_lconst C (v := 0) eX11_isAstern_65 (by decide) ?_
              refine r_goto C eX11_isAstern_66 ?_
              subst hw20
              refine r_sub (lv' := [(0, .ref (a0 o0)), (2, .int (s9.1)), (3, .int w15), (4, .int (s9.2.2.1))]) [1, 2, 0, 3] rfl ?_
              exact J21 
          refine r_if_ne C eX11_isAstern_35 (fun c18 => ?_) (fun c18 => ?_)
          · rw [if_neg c18] at hw15
            refine r_iconst C (v := 1) eX11_isAstern_49 (by decide) ?_
            refine r_goto C eX11_isAstern_50 ?_
            subst hw15
            refine r_sub (lv' := [(0, .ref (a0 o0)), (2, .int (s9.1)), (4, .int (s9.2.2.1))]) [0, 1, 3] rfl ?_
            exact J16 zB1
          · rw [if_pos c18] at hw15
            refine r_aload_n C eX11_isAstern_38 0 rfl rfl ?_
            refine r_get (v := .ref (a0 (o0 + 6))) C eX11_isAstern_39 FX11_25 0 rfl rfl ?_
            refine r_iconst C (v := 3) eX11_isAstern_42 (by decide) ?_
            refine r_laldN C eX11_isAstern_43 6 3 (by decide) rfl ((s9.2.2.2.1) 3) rfl ?_
            refine r_lconst C (v := 0) eX11_isAstern_44 (by decide) ?_
            refine r_lcmp_gt C eX11_isAstern_45 eX11_isAstern_46 (fun c19 => ?_) (fun c19 => ?_)
            · rw [if_pos c19] at hw15
              refine r_iconst C (v := 0) eX11_isAstern_53 (by decide) ?_
              subst hw15
              refine r_sub (lv' := [(0, .ref (a0 o0)), (2, .int (s9.1)), (4, .int (s9.2.2.1))]) [0, 1, 3] rfl ?_
              exact J16 zB0
            · rw [if_neg c19] at hw15
              refine r_iconst C (v := 1) eX11_isAstern_49 (by decide) ?_
              refine r_goto C eX11_isAstern_50 ?_
              subst hw15
              refine r_sub (lv' := [(0, .ref (a0 o0)), (2, .int (s9.1)), (4, .int (s9.2.2.1))]) [0, 1, 3] rfl ?_
              exact J16 zB1
    refine r_sub (lv' := [(0, .ref (a0 o0)), (2, .int (q2.1)), (3, .int 0), (4, .int 0)]) [2, 3, 1, 0] rfl ?_
    have hc := L13 LF ((q2.1), 0, 0, (q2.2.2.1), (q2.2.2.2.1), (q2.2.2.2.2)) h11
    exact hc
  have L5 : ∀ (nL5 : Nat) (s1 : Int32 × Int32 × (Nat → Int64) × (Nat → Int32) × (Nat → Int32)), lp (fB_Mo_isAstern_4 v0 p1) nL5 s1 = some q2 → vV x 5 0 0 (W_Mo (z_g x) a0 o0 (gMo_ints v0) (gMo_told v0) (gMo_postX v0) (gMo_postStrong v0) (gMo_atRow v0) (gMo_heights v0) (s1.2.2.1) (s1.2.2.2.1) (gMo_text v0) (gMo_said v0) (gMo_readTold v0) (gMo_readX v0) (gMo_readStrong v0) (gMo_readRow v0) (s1.2.2.2.2) (gMo_wasShip v0) (gMo_wasLines v0) (gMo_worst v0) (gMo_logRow v0) (gMo_images v0) (gMo_isKept v0)) 4 [(0, .ref (a0 o0)), (1, .int p1), (2, .int (s1.1)), (3, .int (s1.2.1))] [] := by
    intro nL5
    induction nL5 with
    | zero => intro s1 hq; cases hq
    | succ nL5 ihL5 =>
      intro s1 hbL5
      rw [lp_succ, fB_Mo_isAstern_4] at hbL5
      refine r_iload_n C eX11_isAstern_4 3 rfl rfl ?_
      refine r_iload_n C eX11_isAstern_5 1 rfl rfl ?_
      refine r_icmp_ge C eX11_isAstern_6 (fun c6 => ?_) (fun c6 => ?_)
      · rw [if_pos c6] at hbL5
        obtain rfl := Option.some.inj hbL5
        refine r_sub (lv' := [(0, .ref (a0 o0)), (2, .int (s1.1))]) [0, 2] rfl ?_
        exact J4
      · rw [if_neg c6] at hbL5
        refine r_iload_n C eX11_isAstern_9 2 rfl rfl ?_
        refine r_aload_n C eX11_isAstern_10 0 rfl rfl ?_
        obtain ⟨r7, hr7, hbL5⟩ := zbind hbL5
        refine r_V_i (ws' := W_Mo (z_g x) a0 o0 (gMo_ints v0) (gMo_told v0) (gMo_postX v0) (gMo_postStrong v0) (gMo_atRow v0) (gMo_heights v0) (r7.2.1) (r7.2.2.1) (gMo_text v0) (gMo_said v0) (gMo_readTold v0) (gMo_readX v0) (gMo_readStrong v0) (gMo_readRow v0) (r7.2.2.2) (gMo_wasShip v0) (gMo_wasLines v0) (gMo_worst v0) (gMo_logRow v0) (gMo_images v0) (gMo_isKept v0)) C (c_Mo_second (z_l x) (z_g x) a0 o0 ((gMo_ints v0), (gMo_told v0), (gMo_postX v0), (gMo_postStrong v0), (gMo_atRow v0), (gMo_heights v0), (s1.2.2.1), (s1.2.2.2.1), (gMo_text v0), (gMo_said v0), (gMo_readTold v0), (gMo_readX v0), (gMo_readStrong v0), (gMo_readRow v0), (s1.2.2.2.2), (gMo_wasShip v0), (gMo_wasLines v0), (gMo_worst v0), (gMo_logRow v0), (gMo_images v0), (gMo_isKept v0))  r7 hr7) eX11_isAstern_11 MX11_312 ⟨0, 11, _, _, rfl, rfl, rfl⟩ [0, 1, 2, 3, 4, 5, 6, 7, 8, 9, 10, 11, 12, 13, 14, 15, 16, 17, 18, 19] rfl rfl rfl rfl [] rfl trivial 20 rfl rfl rfl rfl rfl rfl ?_
        refine r_iadd C eX11_isAstern_14 ?_
        obtain ⟨z8, hz8, hbL5⟩ := zlet_of hbL5
        refine r_nami hz8 ?_
        refine r_istore_n C [(2, .int z8), (0, .ref (a0 o0)), (1, .int p1), (3, .int (s1.2.1))] eX11_isAstern_15 rfl (by decide) rfl ?_
        refine r_iinc C (v := ((s1.2.1) + 1)) [(3, .int ((s1.2.1) + 1)), (2, .int z8), (0, .ref (a0 o0)), (1, .int p1)] eX11_isAstern_16 3 rfl rfl (by decide) rfl ?_
        refine r_goto C eX11_isAstern_19 ?_
        refine r_sub (lv' := [(0, .ref (a0 o0)), (1, .int p1), (2, .int z8), (3, .int ((s1.2.1) + 1))]) [2, 3, 1, 0] rfl ?_
        have hc := ihL5 (z8, ((s1.2.1) + 1), (r7.2.1), (r7.2.2.1), (r7.2.2.2)) hbL5
        exact hc
  refine r_sub (lv' := [(0, .ref (a0 o0)), (1, .int p1), (2, .int 0), (3, .int 0)]) [2, 3, 1, 0] rfl ?_
  have hc := L5 LF (0, 0, (gMo_ship v0), (gMo_lines v0), (gMo_parting v0)) h3
  exact hc
theorem eX11_back_0 : zd 1 cX11_back 0 1 (.iconst 0) := ⟨by decide +kernel, rfl⟩
theorem eX11_back_1 : zd 1 cX11_back 1 2 (.istore_n 1) := ⟨by decide +kernel, rfl⟩
theorem eX11_back_2 : zd 1 cX11_back 2 3 (.iload_n 1) := ⟨by decide +kernel, rfl⟩
theorem eX11_back_3 : zd 2 cX11_back 3 5 (.bipush 13) := ⟨by decide +kernel, rfl⟩
theorem eX11_back_5 : zdi cX11_back 5 8 26 (.if_icmp .ge) := ⟨21, by decide +kernel, rfl, by decide⟩
theorem eX11_back_8 : zd 1 cX11_back 8 9 (.aload_n 0) := ⟨by decide +kernel, rfl⟩
theorem eX11_back_9 : zd 3 cX11_back 9 12 (.getfield 25) := ⟨by decide +kernel, rfl⟩
theorem eX11_back_12 : zd 1 cX11_back 12 13 (.iload_n 1) := ⟨by decide +kernel, rfl⟩
theorem eX11_back_13 : zd 1 cX11_back 13 14 (.aload_n 0) := ⟨by decide +kernel, rfl⟩
theorem eX11_back_14 : zd 3 cX11_back 14 17 (.getfield 54) := ⟨by decide +kernel, rfl⟩
theorem eX11_back_17 : zd 1 cX11_back 17 18 (.iload_n 1) := ⟨by decide +kernel, rfl⟩
theorem eX11_back_18 : zd 1 cX11_back 18 19 (.laload) := ⟨by decide +kernel, rfl⟩
theorem eX11_back_19 : zd 1 cX11_back 19 20 (.lastore) := ⟨by decide +kernel, rfl⟩
theorem eX11_back_20 : zd 3 cX11_back 20 23 (.iinc 1 1) := ⟨by decide +kernel, rfl⟩
theorem eX11_back_23 : zdi cX11_back 23 26 2 (.goto) := ⟨(-21), by decide +kernel, rfl, by decide⟩
theorem eX11_back_26 : zd 1 cX11_back 26 27 (.iconst 0) := ⟨by decide +kernel, rfl⟩
theorem eX11_back_27 : zd 1 cX11_back 27 28 (.istore_n 1) := ⟨by decide +kernel, rfl⟩
theorem eX11_back_28 : zd 1 cX11_back 28 29 (.iload_n 1) := ⟨by decide +kernel, rfl⟩
theorem eX11_back_29 : zd 2 cX11_back 29 31 (.bipush 24) := ⟨by decide +kernel, rfl⟩
theorem eX11_back_31 : zdi cX11_back 31 34 52 (.if_icmp .ge) := ⟨21, by decide +kernel, rfl, by decide⟩
theorem eX11_back_34 : zd 1 cX11_back 34 35 (.aload_n 0) := ⟨by decide +kernel, rfl⟩
theorem eX11_back_35 : zd 3 cX11_back 35 38 (.getfield 29) := ⟨by decide +kernel, rfl⟩
theorem eX11_back_38 : zd 1 cX11_back 38 39 (.iload_n 1) := ⟨by decide +kernel, rfl⟩
theorem eX11_back_39 : zd 1 cX11_back 39 40 (.aload_n 0) := ⟨by decide +kernel, rfl⟩
theorem eX11_back_40 : zd 3 cX11_back 40 43 (.getfield 57) := ⟨by decide +kernel, rfl⟩
theorem eX11_back_43 : zd 1 cX11_back 43 44 (.iload_n 1) := ⟨by decide +kernel, rfl⟩
theorem eX11_back_44 : zd 1 cX11_back 44 45 (.iaload) := ⟨by decide +kernel, rfl⟩
theorem eX11_back_45 : zd 1 cX11_back 45 46 (.iastore) := ⟨by decide +kernel, rfl⟩
theorem eX11_back_46 : zd 3 cX11_back 46 49 (.iinc 1 1) := ⟨by decide +kernel, rfl⟩
theorem eX11_back_49 : zdi cX11_back 49 52 28 (.goto) := ⟨(-21), by decide +kernel, rfl, by decide⟩
theorem eX11_back_52 : zd 1 cX11_back 52 53 (.return_) := ⟨by decide +kernel, rfl⟩
noncomputable def fB_Mo_back_2 (v0 : tMo) (ih : (Int32 × (Nat → Int64)) → Option (Int32 × (Nat → Int64))) (s1 : Int32 × (Nat → Int64)) : Option (Int32 × (Nat → Int64)) := (if 13 ≤ (s1.1) then (some ((s1.1), (s1.2))) else (if inb (s1.1) 13 = true then (if inb (s1.1) 13 = true then (ih (((s1.1) + 1), (vp_updL (s1.2) (ix (s1.1)) ((gMo_wasShip v0) (ix (s1.1)))))) else none) else none))
noncomputable def fB_Mo_back_28 (v0 : tMo) (ih : (Int32 × (Nat → Int32)) → Option (Int32 × (Nat → Int32))) (s9 : Int32 × (Nat → Int32)) : Option (Int32 × (Nat → Int32)) := (if 24 ≤ (s9.1) then (some ((s9.1), (s9.2))) else (if inb (s9.1) 24 = true then (if inb (s9.1) 24 = true then (ih (((s9.1) + 1), (upd (s9.2) (ix (s9.1)) ((gMo_wasLines v0) (ix (s9.1)))))) else none) else none))
noncomputable def f_Mo_back (v0 : tMo)  : Option ((Nat → Int64) × (Nat → Int32)) := (Option.bind (lp (fB_Mo_back_2 v0) LF (0, (gMo_ship v0))) (fun (q2 : Int32 × (Nat → Int64)) => (Option.bind (lp (fB_Mo_back_28 v0) LF (0, (gMo_lines v0))) (fun (q10 : Int32 × (Nat → Int32)) => (some ((q2.2), (q10.2)))))))
abbrev rm_Mo_back : Room := { frames := 0, cells := 0, slots := 0, locals := 0 }
set_option maxHeartbeats 4000000 in
set_option maxRecDepth 100000 in
theorem c_Mo_back (l : Launch) (g : zGl) (a0 : Nat → Nat) (o0 : Nat) (v0 : tMo)  (out : (Nat → Int64) × (Nat → Int32)) (hf : f_Mo_back v0 = some out) : zMv l yX11_back cX11_back 2 rm_Mo_back g [.ref (a0 o0)] (W_Mo g a0 o0 (gMo_ints v0) (gMo_told v0) (gMo_postX v0) (gMo_postStrong v0) (gMo_atRow v0) (gMo_heights v0) (gMo_ship v0) (gMo_lines v0) (gMo_text v0) (gMo_said v0) (gMo_readTold v0) (gMo_readX v0) (gMo_readStrong v0) (gMo_readRow v0) (gMo_parting v0) (gMo_wasShip v0) (gMo_wasLines v0) (gMo_worst v0) (gMo_logRow v0) (gMo_images v0) (gMo_isKept v0))  (W_Mo g a0 o0 (gMo_ints v0) (gMo_told v0) (gMo_postX v0) (gMo_postStrong v0) (gMo_atRow v0) (gMo_heights v0) (out.1) (out.2) (gMo_text v0) (gMo_said v0) (gMo_readTold v0) (gMo_readX v0) (gMo_readStrong v0) (gMo_readRow v0) (gMo_parting v0) (gMo_wasShip v0) (gMo_wasLines v0) (gMo_worst v0) (gMo_logRow v0) (gMo_images v0) (gMo_isKept v0)) := by
  refine zMv_of (lv := [(0, .ref (a0 o0))]) (by decide) (Nat.le_of_ble_eq_true rfl) rfl (fun x hl hg C hret => ?_)
  subst hl; subst hg
  rw [f_Mo_back] at hf
  refine r_iconst C (v := 0) eX11_back_0 (by decide) ?_
  refine r_istore_n C [(1, .int 0), (0, .ref (a0 o0))] eX11_back_1 rfl (by decide) rfl ?_
  obtain ⟨q2, h3, hf⟩ := zbind hf
  have J4 : vV x 2 0 0 (W_Mo (z_g x) a0 o0 (gMo_ints v0) (gMo_told v0) (gMo_postX v0) (gMo_postStrong v0) (gMo_atRow v0) (gMo_heights v0) (q2.2) (gMo_lines v0) (gMo_text v0) (gMo_said v0) (gMo_readTold v0) (gMo_readX v0) (gMo_readStrong v0) (gMo_readRow v0) (gMo_parting v0) (gMo_wasShip v0) (gMo_wasLines v0) (gMo_worst v0) (gMo_logRow v0) (gMo_images v0) (gMo_isKept v0)) 26 [(0, .ref (a0 o0))] [] := by
    refine r_iconst C (v := 0) eX11_back_26 (by decide) ?_
    refine r_istore_n C [(1, .int 0), (0, .ref (a0 o0))] eX11_back_27 rfl (by decide) rfl ?_
    obtain ⟨q10, h11, hf⟩ := zbind hf
    have J12 : vV x 2 0 0 (W_Mo (z_g x) a0 o0 (gMo_ints v0) (gMo_told v0) (gMo_postX v0) (gMo_postStrong v0) (gMo_atRow v0) (gMo_heights v0) (q2.2) (q10.2) (gMo_text v0) (gMo_said v0) (gMo_readTold v0) (gMo_readX v0) (gMo_readStrong v0) (gMo_readRow v0) (gMo_parting v0) (gMo_wasShip v0) (gMo_wasLines v0) (gMo_worst v0) (gMo_logRow v0) (gMo_images v0) (gMo_isKept v0)) 52 [] [] := by
      obtain rfl := Option.some.inj (show some (((q2.2), (q10.2)) : (Nat → Int64) × (Nat → Int32)) = some _ from hf)
      exact hret _ _ _ eX11_back_52
    have L13 : ∀ (nL13 : Nat) (s9 : Int32 × (Nat → Int32)), lp (fB_Mo_back_28 v0) nL13 s9 = some q10 → vV x 2 0 0 (W_Mo (z_g x) a0 o0 (gMo_ints v0) (gMo_told v0) (gMo_postX v0) (gMo_postStrong v0) (gMo_atRow v0) (gMo_heights v0) (q2.2) (s9.2) (gMo_text v0) (gMo_said v0) (gMo_readTold v0) (gMo_readX v0) (gMo_readStrong v0) (gMo_readRow v0) (gMo_parting v0) (gMo_wasShip v0) (gMo_wasLines v0) (gMo_worst v0) (gMo_logRow v0) (gMo_images v0) (gMo_isKept v0)) 28 [(0, .ref (a0 o0)), (1, .int (s9.1))] [] := by
      intro nL13
      induction nL13 with
      | zero => intro s9 hq; cases hq
      | succ nL13 ihL13 =>
        intro s9 hbL13
        rw [lp_succ, fB_Mo_back_28] at hbL13
        refine r_iload_n C eX11_back_28 1 rfl rfl ?_
        refine r_bipush C (v := 24) eX11_back_29 (by decide) ?_
        refine r_icmp_ge C eX11_back_31 (fun c14 => ?_) (fun c14 => ?_)
        · rw [if_pos c14] at hbL13
          obtain rfl := Option.some.inj hbL13
          refine r_sub (lv' := []) [] rfl ?_
          exact J12
        · rw [if_neg c14] at hbL13
          refine r_aload_n C eX11_back_34 0 rfl rfl ?_
          refine r_get (v := .ref (a0 (o0 + 7))) C eX11_back_35 FX11_29 0 rfl rfl ?_
          refine r_iload_n C eX11_back_38 1 rfl rfl ?_
          refine r_aload_n C eX11_back_39 0 rfl rfl ?_
          refine r_get (v := .ref (a0 (o0 + 15))) C eX11_back_40 FX11_57 0 rfl rfl ?_
          refine r_iload_n C eX11_back_43 1 rfl rfl ?_
          obtain ⟨hb15, hbL13⟩ := zchk hbL13
          refine r_iald C eX11_back_44 15 rfl (inb_in hb15) ((gMo_wasLines v0) (ix (s9.1))) rfl ?_
          obtain ⟨hb16, hbL13⟩ := zchk hbL13
          refine r_iast (ws' := W_Mo (z_g x) a0 o0 (gMo_ints v0) (gMo_told v0) (gMo_postX v0) (gMo_postStrong v0) (gMo_atRow v0) (gMo_heights v0) (q2.2) (upd (s9.2) (ix (s9.1)) ((gMo_wasLines v0) (ix (s9.1)))) (gMo_text v0) (gMo_said v0) (gMo_readTold v0) (gMo_readX v0) (gMo_readStrong v0) (gMo_readRow v0) (gMo_parting v0) (gMo_wasShip v0) (gMo_wasLines v0) (gMo_worst v0) (gMo_logRow v0) (gMo_images v0) (gMo_isKept v0)) C eX11_back_45 7 rfl (inb_in hb16) rfl ?_
          refine r_iinc C (v := ((s9.1) + 1)) [(1, .int ((s9.1) + 1)), (0, .ref (a0 o0))] eX11_back_46 1 rfl rfl (by decide) rfl ?_
          refine r_goto C eX11_back_49 ?_
          refine r_sub (lv' := [(0, .ref (a0 o0)), (1, .int ((s9.1) + 1))]) [1, 0] rfl ?_
          have hc := ihL13 (((s9.1) + 1), (upd (s9.2) (ix (s9.1)) ((gMo_wasLines v0) (ix (s9.1))))) hbL13
          exact hc
    refine r_sub (lv' := [(0, .ref (a0 o0)), (1, .int 0)]) [1, 0] rfl ?_
    have hc := L13 LF (0, (gMo_lines v0)) h11
    exact hc
  have L5 : ∀ (nL5 : Nat) (s1 : Int32 × (Nat → Int64)), lp (fB_Mo_back_2 v0) nL5 s1 = some q2 → vV x 2 0 0 (W_Mo (z_g x) a0 o0 (gMo_ints v0) (gMo_told v0) (gMo_postX v0) (gMo_postStrong v0) (gMo_atRow v0) (gMo_heights v0) (s1.2) (gMo_lines v0) (gMo_text v0) (gMo_said v0) (gMo_readTold v0) (gMo_readX v0) (gMo_readStrong v0) (gMo_readRow v0) (gMo_parting v0) (gMo_wasShip v0) (gMo_wasLines v0) (gMo_worst v0) (gMo_logRow v0) (gMo_images v0) (gMo_isKept v0)) 2 [(0, .ref (a0 o0)), (1, .int (s1.1))] [] := by
    intro nL5
    induction nL5 with
    | zero => intro s1 hq; cases hq
    | succ nL5 ihL5 =>
      intro s1 hbL5
      rw [lp_succ, fB_Mo_back_2] at hbL5
      refine r_iload_n C eX11_back_2 1 rfl rfl ?_
      refine r_bipush C (v := 13) eX11_back_3 (by decide) ?_
      refine r_icmp_ge C eX11_back_5 (fun c6 => ?_) (fun c6 => ?_)
      · rw [if_pos c6] at hbL5
        obtain rfl := Option.some.inj hbL5
        refine r_sub (lv' := [(0, .ref (a0 o0))]) [0] rfl ?_
        exact J4
      · rw [if_neg c6] at hbL5
        refine r_aload_n C eX11_back_8 0 rfl rfl ?_
        refine r_get (v := .ref (a0 (o0 + 6))) C eX11_back_9 FX11_25 0 rfl rfl ?_
        refine r_iload_n C eX11_back_12 1 rfl rfl ?_
        refine r_aload_n C eX11_back_13 0 rfl rfl ?_
        refine r_get (v := .ref (a0 (o0 + 14))) C eX11_back_14 FX11_54 0 rfl rfl ?_
        refine r_iload_n C eX11_back_17 1 rfl rfl ?_
        obtain ⟨hb7, hbL5⟩ := zchk hbL5
        refine r_lald C eX11_back_18 14 rfl (inb_in hb7) ((gMo_wasShip v0) (ix (s1.1))) rfl ?_
        obtain ⟨hb8, hbL5⟩ := zchk hbL5
        refine r_last (ws' := W_Mo (z_g x) a0 o0 (gMo_ints v0) (gMo_told v0) (gMo_postX v0) (gMo_postStrong v0) (gMo_atRow v0) (gMo_heights v0) (vp_updL (s1.2) (ix (s1.1)) ((gMo_wasShip v0) (ix (s1.1)))) (gMo_lines v0) (gMo_text v0) (gMo_said v0) (gMo_readTold v0) (gMo_readX v0) (gMo_readStrong v0) (gMo_readRow v0) (gMo_parting v0) (gMo_wasShip v0) (gMo_wasLines v0) (gMo_worst v0) (gMo_logRow v0) (gMo_images v0) (gMo_isKept v0)) C eX11_back_19 6 rfl (inb_in hb8) rfl ?_
        refine r_iinc C (v := ((s1.1) + 1)) [(1, .int ((s1.1) + 1)), (0, .ref (a0 o0))] eX11_back_20 1 rfl rfl (by decide) rfl ?_
        refine r_goto C eX11_back_23 ?_
        refine r_sub (lv' := [(0, .ref (a0 o0)), (1, .int ((s1.1) + 1))]) [1, 0] rfl ?_
        have hc := ihL5 (((s1.1) + 1), (vp_updL (s1.2) (ix (s1.1)) ((gMo_wasShip v0) (ix (s1.1))))) hbL5
        exact hc
  refine r_sub (lv' := [(0, .ref (a0 o0)), (1, .int 0)]) [1, 0] rfl ?_
  have hc := L5 LF (0, (gMo_ship v0)) h3
  exact hc
theorem eX11_astern_0 : zd 1 cX11_astern 0 1 (.aload_n 0) := ⟨by decide +kernel, rfl⟩
theorem eX11_astern_1 : zd 3 cX11_astern 1 4 (.invokevirtual 356) := ⟨by decide +kernel, rfl⟩
theorem eX11_astern_4 : zd 1 cX11_astern 4 5 (.iconst (-1)) := ⟨by decide +kernel, rfl⟩
theorem eX11_astern_5 : zd 1 cX11_astern 5 6 (.istore_n 1) := ⟨by decide +kernel, rfl⟩
theorem eX11_astern_6 : zd 1 cX11_astern 6 7 (.iconst 0) := ⟨by decide +kernel, rfl⟩
theorem eX11_astern_7 : zd 1 cX11_astern 7 8 (.istore_n 2) := ⟨by decide +kernel, rfl⟩
theorem eX11_astern_8 : zd 1 cX11_astern 8 9 (.iload_n 2) := ⟨by decide +kernel, rfl⟩
theorem eX11_astern_9 : zd 2 cX11_astern 9 11 (.bipush 120) := ⟨by decide +kernel, rfl⟩
theorem eX11_astern_11 : zdi cX11_astern 11 14 42 (.if_icmp .gt) := ⟨31, by decide +kernel, rfl, by decide⟩
theorem eX11_astern_14 : zd 1 cX11_astern 14 15 (.iload_n 1) := ⟨by decide +kernel, rfl⟩
theorem eX11_astern_15 : zdi cX11_astern 15 18 42 (.ifCond .ge) := ⟨27, by decide +kernel, rfl, by decide⟩
theorem eX11_astern_18 : zd 1 cX11_astern 18 19 (.aload_n 0) := ⟨by decide +kernel, rfl⟩
theorem eX11_astern_19 : zd 1 cX11_astern 19 20 (.iload_n 2) := ⟨by decide +kernel, rfl⟩
theorem eX11_astern_20 : zd 3 cX11_astern 20 23 (.invokevirtual 367) := ⟨by decide +kernel, rfl⟩
theorem eX11_astern_23 : zdi cX11_astern 23 26 30 (.ifCond .eq) := ⟨7, by decide +kernel, rfl, by decide⟩
theorem eX11_astern_26 : zd 1 cX11_astern 26 27 (.iload_n 2) := ⟨by decide +kernel, rfl⟩
theorem eX11_astern_27 : zdi cX11_astern 27 30 31 (.goto) := ⟨4, by decide +kernel, rfl, by decide⟩
theorem eX11_astern_30 : zd 1 cX11_astern 30 31 (.iconst (-1)) := ⟨by decide +kernel, rfl⟩
theorem eX11_astern_31 : zd 1 cX11_astern 31 32 (.istore_n 1) := ⟨by decide +kernel, rfl⟩
theorem eX11_astern_32 : zd 1 cX11_astern 32 33 (.aload_n 0) := ⟨by decide +kernel, rfl⟩
theorem eX11_astern_33 : zd 3 cX11_astern 33 36 (.invokevirtual 359) := ⟨by decide +kernel, rfl⟩
theorem eX11_astern_36 : zd 3 cX11_astern 36 39 (.iinc 2 1) := ⟨by decide +kernel, rfl⟩
theorem eX11_astern_39 : zdi cX11_astern 39 42 8 (.goto) := ⟨(-31), by decide +kernel, rfl, by decide⟩
theorem eX11_astern_42 : zd 1 cX11_astern 42 43 (.iload_n 1) := ⟨by decide +kernel, rfl⟩
theorem eX11_astern_43 : zd 1 cX11_astern 43 44 (.ireturn) := ⟨by decide +kernel, rfl⟩
theorem MX11_356 : zlV RX11 356 yX11_save cX11_save 2 (none) 0 := ⟨q1458, q1460, qs58, q12, q1461, by decide, by decide, by decide +kernel⟩
theorem MX11_359 : zlV RX11 359 yX11_back cX11_back 2 (none) 0 := ⟨q1462, q1464, qs59, q12, q1465, by decide, by decide, by decide +kernel⟩
theorem MX11_367 : zlV RX11 367 yX11_isAstern cX11_isAstern 5 ((Option.some FieldType.boolean)) 1 := ⟨q1470, q1472, qs60, q12, q1473, by decide, by decide, by decide +kernel⟩
noncomputable def fB_Mo_astern_8 (v0 : tMo) (r1 : (Nat → Int64) × (Nat → Int32)) (ih : (Int32 × Int32 × (Nat → Int64) × (Nat → Int32) × (Nat → Int32)) → Option (Int32 × Int32 × (Nat → Int64) × (Nat → Int32) × (Nat → Int32))) (s2 : Int32 × Int32 × (Nat → Int64) × (Nat → Int32) × (Nat → Int32)) : Option (Int32 × Int32 × (Nat → Int64) × (Nat → Int32) × (Nat → Int32)) := (if 120 < (s2.2.1) then (some ((s2.1), (s2.2.1), (s2.2.2.1), (s2.2.2.2.1), (s2.2.2.2.2))) else (if 0 ≤ (s2.1) then (some ((s2.1), (s2.2.1), (s2.2.2.1), (s2.2.2.2.1), (s2.2.2.2.2))) else (Option.bind (f_Mo_isAstern ((gMo_ints v0), (gMo_told v0), (gMo_postX v0), (gMo_postStrong v0), (gMo_atRow v0), (gMo_heights v0), (s2.2.2.1), (s2.2.2.2.1), (gMo_text v0), (gMo_said v0), (gMo_readTold v0), (gMo_readX v0), (gMo_readStrong v0), (gMo_readRow v0), (s2.2.2.2.2), (r1.1), (r1.2), (gMo_worst v0), (gMo_logRow v0), (gMo_images v0), (gMo_isKept v0)) (s2.2.1)) (fun (r9 : Int32 × (Nat → Int64) × (Nat → Int32) × (Nat → Int32)) => (zlet (if (r9.1) = 0 then (-1) else (s2.2.1)) (fun (w11 : Int32) => (Option.bind (f_Mo_back ((gMo_ints v0), (gMo_told v0), (gMo_postX v0), (gMo_postStrong v0), (gMo_atRow v0), (gMo_heights v0), (r9.2.1), (r9.2.2.1), (gMo_text v0), (gMo_said v0), (gMo_readTold v0), (gMo_readX v0), (gMo_readStrong v0), (gMo_readRow v0), (r9.2.2.2), (r1.1), (r1.2), (gMo_worst v0), (gMo_logRow v0), (gMo_images v0), (gMo_isKept v0))) (fun (r14 : (Nat → Int64) × (Nat → Int32)) => (ih (w11, ((s2.2.1) + 1), (r14.1), (r14.2), (r9.2.2.2)))))))))))
noncomputable def f_Mo_astern (v0 : tMo)  : Option (Int32 × (Nat → Int64) × (Nat → Int32) × (Nat → Int32) × (Nat → Int64) × (Nat → Int32)) := (Option.bind (f_Mo_save v0) (fun (r1 : (Nat → Int64) × (Nat → Int32)) => (Option.bind (lp (fB_Mo_astern_8 v0 r1) LF ((-1), 0, (gMo_ship v0), (gMo_lines v0), (gMo_parting v0))) (fun (q3 : Int32 × Int32 × (Nat → Int64) × (Nat → Int32) × (Nat → Int32)) => (some ((q3.1), (q3.2.2.1), (q3.2.2.2.1), (q3.2.2.2.2), (r1.1), (r1.2)))))))
abbrev rm_Mo_astern : Room := { frames := 8, cells := 0, slots := 0, locals := 197 }
set_option maxHeartbeats 4000000 in
set_option maxRecDepth 100000 in
theorem c_Mo_astern (l : Launch) (g : zGl) (a0 : Nat → Nat) (o0 : Nat) (v0 : tMo)  (out : Int32 × (Nat → Int64) × (Nat → Int32) × (Nat → Int32) × (Nat → Int64) × (Nat → Int32)) (hf : f_Mo_astern v0 = some out) : zMi l yX11_astern cX11_astern 3 rm_Mo_astern g [.ref (a0 o0)] (W_Mo g a0 o0 (gMo_ints v0) (gMo_told v0) (gMo_postX v0) (gMo_postStrong v0) (gMo_atRow v0) (gMo_heights v0) (gMo_ship v0) (gMo_lines v0) (gMo_text v0) (gMo_said v0) (gMo_readTold v0) (gMo_readX v0) (gMo_readStrong v0) (gMo_readRow v0) (gMo_parting v0) (gMo_wasShip v0) (gMo_wasLines v0) (gMo_worst v0) (gMo_logRow v0) (gMo_images v0) (gMo_isKept v0)) (out.1) (W_Mo g a0 o0 (gMo_ints v0) (gMo_told v0) (gMo_postX v0) (gMo_postStrong v0) (gMo_atRow v0) (gMo_heights v0) (out.2.1) (out.2.2.1) (gMo_text v0) (gMo_said v0) (gMo_readTold v0) (gMo_readX v0) (gMo_readStrong v0) (gMo_readRow v0) (out.2.2.2.1) (out.2.2.2.2.1) (out.2.2.2.2.2) (gMo_worst v0) (gMo_logRow v0) (gMo_images v0) (gMo_isKept v0)) := by
  refine zMi_of (lv := [(0, .ref (a0 o0))]) (by decide) (Nat.le_of_ble_eq_true rfl) rfl (fun x hl hg C hret => ?_)
  subst hl; subst hg
  rw [f_Mo_astern] at hf
  refine r_aload_n C eX11_astern_0 0 rfl rfl ?_
  obtain ⟨r1, hr1, hf⟩ := zbind hf
  refine r_V_v (ws' := W_Mo (z_g x) a0 o0 (gMo_ints v0) (gMo_told v0) (gMo_postX v0) (gMo_postStrong v0) (gMo_atRow v0) (gMo_heights v0) (gMo_ship v0) (gMo_lines v0) (gMo_text v0) (gMo_said v0) (gMo_readTold v0) (gMo_readX v0) (gMo_readStrong v0) (gMo_readRow v0) (gMo_parting v0) (r1.1) (r1.2) (gMo_worst v0) (gMo_logRow v0) (gMo_images v0) (gMo_isKept v0)) C (c_Mo_save (z_l x) (z_g x) a0 o0 v0  r1 hr1) eX11_astern_1 MX11_356 ⟨0, 11, _, _, rfl, rfl, rfl⟩ [0, 1, 2, 3, 4, 5, 6, 7, 8, 9, 10, 11, 12, 13, 14, 15, 16, 17, 18, 19] rfl rfl rfl rfl [] rfl trivial 20 rfl rfl rfl rfl rfl rfl ?_
  refine r_iconst C (v := (-1)) eX11_astern_4 (by decide) ?_
  refine r_istore_n C [(1, .int (-1)), (0, .ref (a0 o0))] eX11_astern_5 rfl (by decide) rfl ?_
  refine r_iconst C (v := 0) eX11_astern_6 (by decide) ?_
  refine r_istore_n C [(2, .int 0), (1, .int (-1)), (0, .ref (a0 o0))] eX11_astern_7 rfl (by decide) rfl ?_
  obtain ⟨q3, h4, hf⟩ := zbind hf
  have J5 : vV x 3 0 0 (W_Mo (z_g x) a0 o0 (gMo_ints v0) (gMo_told v0) (gMo_postX v0) (gMo_postStrong v0) (gMo_atRow v0) (gMo_heights v0) (q3.2.2.1) (q3.2.2.2.1) (gMo_text v0) (gMo_said v0) (gMo_readTold v0) (gMo_readX v0) (gMo_readStrong v0) (gMo_readRow v0) (q3.2.2.2.2) (r1.1) (r1.2) (gMo_worst v0) (gMo_logRow v0) (gMo_images v0) (gMo_isKept v0)) 42 [(1, .int (q3.1))] [] := by
    refine r_iload_n C eX11_astern_42 0 rfl rfl ?_
    obtain rfl := Option.some.inj (show some (((q3.1), (q3.2.2.1), (q3.2.2.2.1), (q3.2.2.2.2), (r1.1), (r1.2)) : Int32 × (Nat → Int64) × (Nat → Int32) × (Nat → Int32) × (Nat → Int64) × (Nat → Int32)) = some _ from hf)
    exact hret _ _ _ eX11_astern_43
  have L6 : ∀ (nL6 : Nat) (s2 : Int32 × Int32 × (Nat → Int64) × (Nat → Int32) × (Nat → Int32)), lp (fB_Mo_astern_8 v0 r1) nL6 s2 = some q3 → vV x 3 0 0 (W_Mo (z_g x) a0 o0 (gMo_ints v0) (gMo_told v0) (gMo_postX v0) (gMo_postStrong v0) (gMo_atRow v0) (gMo_heights v0) (s2.2.2.1) (s2.2.2.2.1) (gMo_text v0) (gMo_said v0) (gMo_readTold v0) (gMo_readX v0) (gMo_readStrong v0) (gMo_readRow v0) (s2.2.2.2.2) (r1.1) (r1.2) (gMo_worst v0) (gMo_logRow v0) (gMo_images v0) (gMo_isKept v0)) 8 [(0, .ref (a0 o0)), (1, .int (s2.1)), (2, .int (s2.2.1))] [] := by
    intro nL6
    induction nL6 with
    | zero => intro s2 hq; cases hq
    | succ nL6 ihL6 =>
      intro s2 hbL6
      rw [lp_succ, fB_Mo_astern_8] at hbL6
      refine r_iload_n C eX11_astern_8 2 rfl rfl ?_
      refine r_bipush C (v := 120) eX11_astern_9 (by decide) ?_
      refine r_icmp_gt C eX11_astern_11 (fun c7 => ?_) (fun c7 => ?_)
      · rw [if_pos c7] at hbL6
        obtain rfl := Option.some.inj hbL6
        refine r_sub (lv' := [(1, .int (s2.1))]) [1] rfl ?_
        exact J5
      · rw [if_neg c7] at hbL6
        refine r_iload_n C eX11_astern_14 1 rfl rfl ?_
        refine r_if_ge C eX11_astern_15 (fun c8 => ?_) (fun c8 => ?_)
        · rw [if_pos c8] at hbL6
          obtain rfl := Option.some.inj hbL6
          refine r_sub (lv' := [(1, .int (s2.1))]) [1] rfl ?_
          exact J5
        · rw [if_neg c8] at hbL6
          refine r_aload_n C eX11_astern_18 0 rfl rfl ?_
          refine r_iload_n C eX11_astern_19 2 rfl rfl ?_
          obtain ⟨r9, hr9, hbL6⟩ := zbind hbL6
          refine r_V_z (ws' := W_Mo (z_g x) a0 o0 (gMo_ints v0) (gMo_told v0) (gMo_postX v0) (gMo_postStrong v0) (gMo_atRow v0) (gMo_heights v0) (r9.2.1) (r9.2.2.1) (gMo_text v0) (gMo_said v0) (gMo_readTold v0) (gMo_readX v0) (gMo_readStrong v0) (gMo_readRow v0) (r9.2.2.2) (r1.1) (r1.2) (gMo_worst v0) (gMo_logRow v0) (gMo_images v0) (gMo_isKept v0)) C (c_Mo_isAstern (z_l x) (z_g x) a0 o0 ((gMo_ints v0), (gMo_told v0), (gMo_postX v0), (gMo_postStrong v0), (gMo_atRow v0), (gMo_heights v0), (s2.2.2.1), (s2.2.2.2.1), (gMo_text v0), (gMo_said v0), (gMo_readTold v0), (gMo_readX v0), (gMo_readStrong v0), (gMo_readRow v0), (s2.2.2.2.2), (r1.1), (r1.2), (gMo_worst v0), (gMo_logRow v0), (gMo_images v0), (gMo_isKept v0)) (s2.2.1) r9 hr9) eX11_astern_20 MX11_367 ⟨0, 11, _, _, rfl, rfl, rfl⟩ [0, 1, 2, 3, 4, 5, 6, 7, 8, 9, 10, 11, 12, 13, 14, 15, 16, 17, 18, 19] rfl rfl rfl rfl [] rfl trivial 20 rfl rfl rfl rfl rfl rfl (fun zb10 => ?_)
          obtain ⟨w11, hw11, hbL6⟩ := zlet_of hbL6
          have J12 : vV x 3 0 0 (W_Mo (z_g x) a0 o0 (gMo_ints v0) (gMo_told v0) (gMo_postX v0) (gMo_postStrong v0) (gMo_atRow v0) (gMo_heights v0) (r9.2.1) (r9.2.2.1) (gMo_text v0) (gMo_said v0) (gMo_readTold v0) (gMo_readX v0) (gMo_readStrong v0) (gMo_readRow v0) (r9.2.2.2) (r1.1) (r1.2) (gMo_worst v0) (gMo_logRow v0) (gMo_images v0) (gMo_isKept v0)) 31 [(0, .ref (a0 o0)), (2, .int (s2.2.1))] [.int w11] := by
            refine r_istore_n C [(1, .int w11), (0, .ref (a0 o0)), (2, .int (s2.2.1))] eX11_astern_31 rfl (by decide) rfl ?_
            refine r_aload_n C eX11_astern_32 1 rfl rfl ?_
            obtain ⟨r14, hr14, hbL6⟩ := zbind hbL6
            refine r_V_v (ws' := W_Mo (z_g x) a0 o0 (gMo_ints v0) (gMo_told v0) (gMo_postX v0) (gMo_postStrong v0) (gMo_atRow v0) (gMo_heights v0) (r14.1) (r14.2) (gMo_text v0) (gMo_said v0) (gMo_readTold v0) (gMo_readX v0) (gMo_readStrong v0) (gMo_readRow v0) (r9.2.2.2) (r1.1) (r1.2) (gMo_worst v0) (gMo_logRow v0) (gMo_images v0) (gMo_isKept v0)) C (c_Mo_back (z_l x) (z_g x) a0 o0 ((gMo_ints v0), (gMo_told v0), (gMo_postX v0), (gMo_postStrong v0), (gMo_atRow v0), (gMo_heights v0), (r9.2.1), (r9.2.2.1), (gMo_text v0), (gMo_said v0), (gMo_readTold v0), (gMo_readX v0), (gMo_readStrong v0), (gMo_readRow v0), (r9.2.2.2), (r1.1), (r1.2), (gMo_worst v0), (gMo_logRow v0), (gMo_images v0), (gMo_isKept v0))  r14 hr14) eX11_astern_33 MX11_359 ⟨0, 11, _, _, rfl, rfl, rfl⟩ [0, 1, 2, 3, 4, 5, 6, 7, 8, 9, 10, 11, 12, 13, 14, 15, 16, 17, 18, 19] rfl rfl rfl rfl [] rfl trivial 20 rfl rfl rfl rfl rfl rfl ?_
            refine r_iinc C (v := ((s2.2.1) + 1)) [(2, .int ((s2.2.1) + 1)), (1, .int w11), (0, .ref (a0 o0))] eX11_astern_36 2 rfl rfl (by decide) rfl ?_
            refine r_goto C eX11_astern_39 ?_
            refine r_sub (lv' := [(0, .ref (a0 o0)), (1, .int w11), (2, .int ((s2.2.1) + 1))]) [2, 1, 0] rfl ?_
            have hc := ihL6 (w11, ((s2.2.1) + 1), (r14.1), (r14.2), (r9.2.2.2)) hbL6
            exact hc
          refine r_if_eq C eX11_astern_23 (fun c13 => ?_) (fun c13 => ?_)
          · rw [if_pos c13] at hw11
            refine r_iconst C (v := (-1)) eX11_astern_30 (by decide) ?_
            subst hw11
            refine r_sub (lv' := [(0, .ref (a0 o0)), (2, .int (s2.2.1))]) [0, 2] rfl ?_
            exact J12 
          · rw [if_neg c13] at hw11
            refine r_iload_n C eX11_astern_26 2 rfl rfl ?_
            refine r_goto C eX11_astern_27 ?_
            subst hw11
            refine r_sub (lv' := [(0, .ref (a0 o0)), (2, .int (s2.2.1))]) [0, 2] rfl ?_
            exact J12 
  refine r_sub (lv' := [(0, .ref (a0 o0)), (1, .int (-1)), (2, .int 0)]) [2, 1, 0] rfl ?_
  have hc := L6 LF ((-1), 0, (gMo_ship v0), (gMo_lines v0), (gMo_parting v0)) h4
  exact hc
theorem eX11_begin_0 : zd 1 cX11_begin 0 1 (.iconst 0) := ⟨by decide +kernel, rfl⟩
theorem eX11_begin_1 : zd 1 cX11_begin 1 2 (.istore_n 1) := ⟨by decide +kernel, rfl⟩
theorem eX11_begin_2 : zd 1 cX11_begin 2 3 (.iload_n 1) := ⟨by decide +kernel, rfl⟩
theorem eX11_begin_3 : zd 2 cX11_begin 3 5 (.bipush 13) := ⟨by decide +kernel, rfl⟩
theorem eX11_begin_5 : zdi cX11_begin 5 8 42 (.if_icmp .ge) := ⟨37, by decide +kernel, rfl, by decide⟩
theorem eX11_begin_8 : zd 1 cX11_begin 8 9 (.aload_n 0) := ⟨by decide +kernel, rfl⟩
theorem eX11_begin_9 : zd 3 cX11_begin 9 12 (.getfield 25) := ⟨by decide +kernel, rfl⟩
theorem eX11_begin_12 : zd 1 cX11_begin 12 13 (.iload_n 1) := ⟨by decide +kernel, rfl⟩
theorem eX11_begin_13 : zd 1 cX11_begin 13 14 (.iload_n 1) := ⟨by decide +kernel, rfl⟩
theorem eX11_begin_14 : zdi cX11_begin 14 17 23 (.ifCond .ne) := ⟨9, by decide +kernel, rfl, by decide⟩
theorem eX11_begin_17 : zd 3 cX11_begin 17 20 (.ldc2_w 80) := ⟨by decide +kernel, rfl⟩
theorem eX11_begin_20 : zdi cX11_begin 20 23 35 (.goto) := ⟨15, by decide +kernel, rfl, by decide⟩
theorem eX11_begin_23 : zd 1 cX11_begin 23 24 (.iload_n 1) := ⟨by decide +kernel, rfl⟩
theorem eX11_begin_24 : zd 1 cX11_begin 24 25 (.iconst 1) := ⟨by decide +kernel, rfl⟩
theorem eX11_begin_25 : zdi cX11_begin 25 28 34 (.if_icmp .ne) := ⟨9, by decide +kernel, rfl, by decide⟩
theorem eX11_begin_28 : zd 3 cX11_begin 28 31 (.ldc2_w 82) := ⟨by decide +kernel, rfl⟩
theorem eX11_begin_31 : zdi cX11_begin 31 34 35 (.goto) := ⟨4, by decide +kernel, rfl, by decide⟩
theorem eX11_begin_34 : zd 1 cX11_begin 34 35 (.lconst 0) := ⟨by decide +kernel, rfl⟩
theorem eX11_begin_35 : zd 1 cX11_begin 35 36 (.lastore) := ⟨by decide +kernel, rfl⟩
theorem eX11_begin_36 : zd 3 cX11_begin 36 39 (.iinc 1 1) := ⟨by decide +kernel, rfl⟩
theorem eX11_begin_39 : zdi cX11_begin 39 42 2 (.goto) := ⟨(-37), by decide +kernel, rfl, by decide⟩
theorem eX11_begin_42 : zd 1 cX11_begin 42 43 (.iconst 0) := ⟨by decide +kernel, rfl⟩
theorem eX11_begin_43 : zd 1 cX11_begin 43 44 (.istore_n 1) := ⟨by decide +kernel, rfl⟩
theorem eX11_begin_44 : zd 1 cX11_begin 44 45 (.iload_n 1) := ⟨by decide +kernel, rfl⟩
theorem eX11_begin_45 : zd 2 cX11_begin 45 47 (.bipush 24) := ⟨by decide +kernel, rfl⟩
theorem eX11_begin_47 : zdi cX11_begin 47 50 63 (.if_icmp .ge) := ⟨16, by decide +kernel, rfl, by decide⟩
theorem eX11_begin_50 : zd 1 cX11_begin 50 51 (.aload_n 0) := ⟨by decide +kernel, rfl⟩
theorem eX11_begin_51 : zd 3 cX11_begin 51 54 (.getfield 29) := ⟨by decide +kernel, rfl⟩
theorem eX11_begin_54 : zd 1 cX11_begin 54 55 (.iload_n 1) := ⟨by decide +kernel, rfl⟩
theorem eX11_begin_55 : zd 1 cX11_begin 55 56 (.iconst 0) := ⟨by decide +kernel, rfl⟩
theorem eX11_begin_56 : zd 1 cX11_begin 56 57 (.iastore) := ⟨by decide +kernel, rfl⟩
theorem eX11_begin_57 : zd 3 cX11_begin 57 60 (.iinc 1 1) := ⟨by decide +kernel, rfl⟩
theorem eX11_begin_60 : zdi cX11_begin 60 63 44 (.goto) := ⟨(-16), by decide +kernel, rfl, by decide⟩
theorem eX11_begin_63 : zd 1 cX11_begin 63 64 (.return_) := ⟨by decide +kernel, rfl⟩
noncomputable def fB_Mo_begin_2  (ih : (Int32 × (Nat → Int64)) → Option (Int32 × (Nat → Int64))) (s1 : Int32 × (Nat → Int64)) : Option (Int32 × (Nat → Int64)) := (if 13 ≤ (s1.1) then (some ((s1.1), (s1.2))) else (zlet (if (s1.1) = 0 then 4500 else (if (s1.1) = 1 then 3000 else 0)) (fun (w7 : Int64) => (if inb (s1.1) 13 = true then (ih (((s1.1) + 1), (vp_updL (s1.2) (ix (s1.1)) w7))) else none))))
noncomputable def fB_Mo_begin_44  (ih : (Int32 × (Nat → Int32)) → Option (Int32 × (Nat → Int32))) (s12 : Int32 × (Nat → Int32)) : Option (Int32 × (Nat → Int32)) := (if 24 ≤ (s12.1) then (some ((s12.1), (s12.2))) else (if inb (s12.1) 24 = true then (ih (((s12.1) + 1), (upd (s12.2) (ix (s12.1)) 0))) else none))
noncomputable def f_Mo_begin (v0 : tMo)  : Option ((Nat → Int64) × (Nat → Int32)) := (Option.bind (lp (fB_Mo_begin_2) LF (0, (gMo_ship v0))) (fun (q2 : Int32 × (Nat → Int64)) => (Option.bind (lp (fB_Mo_begin_44) LF (0, (gMo_lines v0))) (fun (q13 : Int32 × (Nat → Int32)) => (some ((q2.2), (q13.2)))))))
abbrev rm_Mo_begin : Room := { frames := 0, cells := 0, slots := 0, locals := 0 }
set_option maxHeartbeats 4000000 in
set_option maxRecDepth 100000 in
theorem c_Mo_begin (l : Launch) (g : zGl) (a0 : Nat → Nat) (o0 : Nat) (v0 : tMo)  (out : (Nat → Int64) × (Nat → Int32)) (hf : f_Mo_begin v0 = some out) : zMv l yX11_begin cX11_begin 2 rm_Mo_begin g [.ref (a0 o0)] (W_Mo g a0 o0 (gMo_ints v0) (gMo_told v0) (gMo_postX v0) (gMo_postStrong v0) (gMo_atRow v0) (gMo_heights v0) (gMo_ship v0) (gMo_lines v0) (gMo_text v0) (gMo_said v0) (gMo_readTold v0) (gMo_readX v0) (gMo_readStrong v0) (gMo_readRow v0) (gMo_parting v0) (gMo_wasShip v0) (gMo_wasLines v0) (gMo_worst v0) (gMo_logRow v0) (gMo_images v0) (gMo_isKept v0))  (W_Mo g a0 o0 (gMo_ints v0) (gMo_told v0) (gMo_postX v0) (gMo_postStrong v0) (gMo_atRow v0) (gMo_heights v0) (out.1) (out.2) (gMo_text v0) (gMo_said v0) (gMo_readTold v0) (gMo_readX v0) (gMo_readStrong v0) (gMo_readRow v0) (gMo_parting v0) (gMo_wasShip v0) (gMo_wasLines v0) (gMo_worst v0) (gMo_logRow v0) (gMo_images v0) (gMo_isKept v0)) := by
  refine zMv_of (lv := [(0, .ref (a0 o0))]) (by decide) (Nat.le_of_ble_eq_true rfl) rfl (fun x hl hg C hret => ?_)
  subst hl; subst hg
  rw [f_Mo_begin] at hf
  refine r_iconst C (v := 0) eX11_begin_0 (by decide) ?_
  refine r_istore_n C [(1, .int 0), (0, .ref (a0 o0))] eX11_begin_1 rfl (by decide) rfl ?_
  obtain ⟨q2, h3, hf⟩ := zbind hf
  have J4 : vV x 2 0 0 (W_Mo (z_g x) a0 o0 (gMo_ints v0) (gMo_told v0) (gMo_postX v0) (gMo_postStrong v0) (gMo_atRow v0) (gMo_heights v0) (q2.2) (gMo_lines v0) (gMo_text v0) (gMo_said v0) (gMo_readTold v0) (gMo_readX v0) (gMo_readStrong v0) (gMo_readRow v0) (gMo_parting v0) (gMo_wasShip v0) (gMo_wasLines v0) (gMo_worst v0) (gMo_logRow v0) (gMo_images v0) (gMo_isKept v0)) 42 [(0, .ref (a0 o0))] [] := by
    refine r_iconst C (v := 0) eX11_begin_42 (by decide) ?_
    refine r_istore_n C [(1, .int 0), (0, .ref (a0 o0))] eX11_begin_43 rfl (by decide) rfl ?_
    obtain ⟨q13, h14, hf⟩ := zbind hf
    have J15 : vV x 2 0 0 (W_Mo (z_g x) a0 o0 (gMo_ints v0) (gMo_told v0) (gMo_postX v0) (gMo_postStrong v0) (gMo_atRow v0) (gMo_heights v0) (q2.2) (q13.2) (gMo_text v0) (gMo_said v0) (gMo_readTold v0) (gMo_readX v0) (gMo_readStrong v0) (gMo_readRow v0) (gMo_parting v0) (gMo_wasShip v0) (gMo_wasLines v0) (gMo_worst v0) (gMo_logRow v0) (gMo_images v0) (gMo_isKept v0)) 63 [] [] := by
      obtain rfl := Option.some.inj (show some (((q2.2), (q13.2)) : (Nat → Int64) × (Nat → Int32)) = some _ from hf)
      exact hret _ _ _ eX11_begin_63
    have L16 : ∀ (nL16 : Nat) (s12 : Int32 × (Nat → Int32)), lp (fB_Mo_begin_44) nL16 s12 = some q13 → vV x 2 0 0 (W_Mo (z_g x) a0 o0 (gMo_ints v0) (gMo_told v0) (gMo_postX v0) (gMo_postStrong v0) (gMo_atRow v0) (gMo_heights v0) (q2.2) (s12.2) (gMo_text v0) (gMo_said v0) (gMo_readTold v0) (gMo_readX v0) (gMo_readStrong v0) (gMo_readRow v0) (gMo_parting v0) (gMo_wasShip v0) (gMo_wasLines v0) (gMo_worst v0) (gMo_logRow v0) (gMo_images v0) (gMo_isKept v0)) 44 [(0, .ref (a0 o0)), (1, .int (s12.1))] [] := by
      intro nL16
      induction nL16 with
      | zero => intro s12 hq; cases hq
      | succ nL16 ihL16 =>
        intro s12 hbL16
        rw [lp_succ, fB_Mo_begin_44] at hbL16
        refine r_iload_n C eX11_begin_44 1 rfl rfl ?_
        refine r_bipush C (v := 24) eX11_begin_45 (by decide) ?_
        refine r_icmp_ge C eX11_begin_47 (fun c17 => ?_) (fun c17 => ?_)
        · rw [if_pos c17] at hbL16
          obtain rfl := Option.some.inj hbL16
          refine r_sub (lv' := []) [] rfl ?_
          exact J15
        · rw [if_neg c17] at hbL16
          refine r_aload_n C eX11_begin_50 0 rfl rfl ?_
          refine r_get (v := .ref (a0 (o0 + 7))) C eX11_begin_51 FX11_29 0 rfl rfl ?_
          refine r_iload_n C eX11_begin_54 1 rfl rfl ?_
          refine r_iconst C (v := 0) eX11_begin_55 (by decide) ?_
          obtain ⟨hb18, hbL16⟩ := zchk hbL16
          refine r_iast (ws' := W_Mo (z_g x) a0 o0 (gMo_ints v0) (gMo_told v0) (gMo_postX v0) (gMo_postStrong v0) (gMo_atRow v0) (gMo_heights v0) (q2.2) (upd (s12.2) (ix (s12.1)) 0) (gMo_text v0) (gMo_said v0) (gMo_readTold v0) (gMo_readX v0) (gMo_readStrong v0) (gMo_readRow v0) (gMo_parting v0) (gMo_wasShip v0) (gMo_wasLines v0) (gMo_worst v0) (gMo_logRow v0) (gMo_images v0) (gMo_isKept v0)) C eX11_begin_56 7 rfl (inb_in hb18) rfl ?_
          refine r_iinc C (v := ((s12.1) + 1)) [(1, .int ((s12.1) + 1)), (0, .ref (a0 o0))] eX11_begin_57 1 rfl rfl (by decide) rfl ?_
          refine r_goto C eX11_begin_60 ?_
          refine r_sub (lv' := [(0, .ref (a0 o0)), (1, .int ((s12.1) + 1))]) [1, 0] rfl ?_
          have hc := ihL16 (((s12.1) + 1), (upd (s12.2) (ix (s12.1)) 0)) hbL16
          exact hc
    refine r_sub (lv' := [(0, .ref (a0 o0)), (1, .int 0)]) [1, 0] rfl ?_
    have hc := L16 LF (0, (gMo_lines v0)) h14
    exact hc
  have L5 : ∀ (nL5 : Nat) (s1 : Int32 × (Nat → Int64)), lp (fB_Mo_begin_2) nL5 s1 = some q2 → vV x 2 0 0 (W_Mo (z_g x) a0 o0 (gMo_ints v0) (gMo_told v0) (gMo_postX v0) (gMo_postStrong v0) (gMo_atRow v0) (gMo_heights v0) (s1.2) (gMo_lines v0) (gMo_text v0) (gMo_said v0) (gMo_readTold v0) (gMo_readX v0) (gMo_readStrong v0) (gMo_readRow v0) (gMo_parting v0) (gMo_wasShip v0) (gMo_wasLines v0) (gMo_worst v0) (gMo_logRow v0) (gMo_images v0) (gMo_isKept v0)) 2 [(0, .ref (a0 o0)), (1, .int (s1.1))] [] := by
    intro nL5
    induction nL5 with
    | zero => intro s1 hq; cases hq
    | succ nL5 ihL5 =>
      intro s1 hbL5
      rw [lp_succ, fB_Mo_begin_2] at hbL5
      refine r_iload_n C eX11_begin_2 1 rfl rfl ?_
      refine r_bipush C (v := 13) eX11_begin_3 (by decide) ?_
      refine r_icmp_ge C eX11_begin_5 (fun c6 => ?_) (fun c6 => ?_)
      · rw [if_pos c6] at hbL5
        obtain rfl := Option.some.inj hbL5
        refine r_sub (lv' := [(0, .ref (a0 o0))]) [0] rfl ?_
        exact J4
      · rw [if_neg c6] at hbL5
        refine r_aload_n C eX11_begin_8 0 rfl rfl ?_
        refine r_get (v := .ref (a0 (o0 + 6))) C eX11_begin_9 FX11_25 0 rfl rfl ?_
        refine r_iload_n C eX11_begin_12 1 rfl rfl ?_
        refine r_iload_n C eX11_begin_13 1 rfl rfl ?_
        obtain ⟨w7, hw7, hbL5⟩ := zlet_of hbL5
        have J8 : vV x 2 0 0 (W_Mo (z_g x) a0 o0 (gMo_ints v0) (gMo_told v0) (gMo_postX v0) (gMo_postStrong v0) (gMo_atRow v0) (gMo_heights v0) (s1.2) (gMo_lines v0) (gMo_text v0) (gMo_said v0) (gMo_readTold v0) (gMo_readX v0) (gMo_readStrong v0) (gMo_readRow v0) (gMo_parting v0) (gMo_wasShip v0) (gMo_wasLines v0) (gMo_worst v0) (gMo_logRow v0) (gMo_images v0) (gMo_isKept v0)) 35 [(0, .ref (a0 o0)), (1, .int (s1.1))] [.long w7, .int (s1.1), .ref (a0 (o0 + 6))] := by
          obtain ⟨hb11, hbL5⟩ := zchk hbL5
          refine r_last (ws' := W_Mo (z_g x) a0 o0 (gMo_ints v0) (gMo_told v0) (gMo_postX v0) (gMo_postStrong v0) (gMo_atRow v0) (gMo_heights v0) (vp_updL (s1.2) (ix (s1.1)) w7) (gMo_lines v0) (gMo_text v0) (gMo_said v0) (gMo_readTold v0) (gMo_readX v0) (gMo_readStrong v0) (gMo_readRow v0) (gMo_parting v0) (gMo_wasShip v0) (gMo_wasLines v0) (gMo_worst v0) (gMo_logRow v0) (gMo_images v0) (gMo_isKept v0)) C eX11_begin_35 6 rfl (inb_in hb11) rfl ?_
          refine r_iinc C (v := ((s1.1) + 1)) [(1, .int ((s1.1) + 1)), (0, .ref (a0 o0))] eX11_begin_36 1 rfl rfl (by decide) rfl ?_
          refine r_goto C eX11_begin_39 ?_
          refine r_sub (lv' := [(0, .ref (a0 o0)), (1, .int ((s1.1) + 1))]) [1, 0] rfl ?_
          have hc := ihL5 (((s1.1) + 1), (vp_updL (s1.2) (ix (s1.1)) w7)) hbL5
          exact hc
        refine r_if_ne C eX11_begin_14 (fun c9 => ?_) (fun c9 => ?_)
        · rw [if_neg c9] at hw7
          refine r_iload_n C eX11_begin_23 1 rfl rfl ?_
          refine r_iconst C (v := 1) eX11_begin_24 (by decide) ?_
          refine r_icmp_ne C eX11_begin_25 (fun c10 => ?_) (fun c10 => ?_)
          · rw [if_neg c10] at hw7
            refine r_lconst C (v := 0) eX11_begin_34 (by decide) ?_
            subst hw7
            exact J8 
          · rw [if_pos c10] at hw7
            refine r_ldc2 C (v := 3000) eX11_begin_28 q1070 ?_
            refine r_goto C eX11_begin_31 ?_
            subst hw7
            exact J8 
        · rw [if_pos c9] at hw7
          refine r_ldc2 C (v := 4500) eX11_begin_17 q1069 ?_
          refine r_goto C eX11_begin_20 ?_
          subst hw7
          exact J8 
  refine r_sub (lv' := [(0, .ref (a0 o0)), (1, .int 0)]) [1, 0] rfl ?_
  have hc := L5 LF (0, (gMo_ship v0)) h3
  exact hc
theorem eX11_bits_0 : zd 1 cX11_bits 0 1 (.iconst 0) := ⟨by decide +kernel, rfl⟩
theorem eX11_bits_1 : zd 1 cX11_bits 1 2 (.istore_n 1) := ⟨by decide +kernel, rfl⟩
theorem eX11_bits_2 : zd 1 cX11_bits 2 3 (.iconst 0) := ⟨by decide +kernel, rfl⟩
theorem eX11_bits_3 : zd 1 cX11_bits 3 4 (.istore_n 2) := ⟨by decide +kernel, rfl⟩
theorem eX11_bits_4 : zd 1 cX11_bits 4 5 (.iload_n 2) := ⟨by decide +kernel, rfl⟩
theorem eX11_bits_5 : zd 2 cX11_bits 5 7 (.bipush 24) := ⟨by decide +kernel, rfl⟩
theorem eX11_bits_7 : zdi cX11_bits 7 10 24 (.if_icmp .ge) := ⟨17, by decide +kernel, rfl, by decide⟩
theorem eX11_bits_10 : zd 1 cX11_bits 10 11 (.iload_n 1) := ⟨by decide +kernel, rfl⟩
theorem eX11_bits_11 : zd 1 cX11_bits 11 12 (.iload_n 0) := ⟨by decide +kernel, rfl⟩
theorem eX11_bits_12 : zd 1 cX11_bits 12 13 (.iload_n 2) := ⟨by decide +kernel, rfl⟩
theorem eX11_bits_13 : zd 1 cX11_bits 13 14 (.ishr) := ⟨by decide +kernel, rfl⟩
theorem eX11_bits_14 : zd 1 cX11_bits 14 15 (.iconst 1) := ⟨by decide +kernel, rfl⟩
theorem eX11_bits_15 : zd 1 cX11_bits 15 16 (.iand) := ⟨by decide +kernel, rfl⟩
theorem eX11_bits_16 : zd 1 cX11_bits 16 17 (.iadd) := ⟨by decide +kernel, rfl⟩
theorem eX11_bits_17 : zd 1 cX11_bits 17 18 (.istore_n 1) := ⟨by decide +kernel, rfl⟩
theorem eX11_bits_18 : zd 3 cX11_bits 18 21 (.iinc 2 1) := ⟨by decide +kernel, rfl⟩
theorem eX11_bits_21 : zdi cX11_bits 21 24 4 (.goto) := ⟨(-17), by decide +kernel, rfl, by decide⟩
theorem eX11_bits_24 : zd 1 cX11_bits 24 25 (.iload_n 1) := ⟨by decide +kernel, rfl⟩
theorem eX11_bits_25 : zd 1 cX11_bits 25 26 (.ireturn) := ⟨by decide +kernel, rfl⟩
noncomputable def fB_Mo_bits_4 (p1 : Int32) (ih : (Int32 × Int32) → Option (Int32 × Int32)) (s1 : Int32 × Int32) : Option (Int32 × Int32) := (if 24 ≤ (s1.2) then (some ((s1.1), (s1.2))) else (zlet ((s1.1) + ((p1 >>> ((s1.2) &&& 31)) &&& 1)) (fun (z7 : Int32) => (ih (z7, ((s1.2) + 1))))))
noncomputable def f_Mo_bits  (p1 : Int32) : Option (Int32) := (Option.bind (lp (fB_Mo_bits_4 p1) LF (0, 0)) (fun (q2 : Int32 × Int32) => (some (q2.1))))
abbrev rm_Mo_bits : Room := { frames := 0, cells := 0, slots := 0, locals := 0 }
set_option maxHeartbeats 4000000 in
set_option maxRecDepth 100000 in
theorem c_Mo_bits (l : Launch) (g : zGl)  (p1 : Int32) (out : Int32) (hf : f_Mo_bits p1 = some out) : zMi l yX11_bits cX11_bits 3 rm_Mo_bits g [.int p1] ([]) out ([]) := by
  refine zMi_of (lv := [(0, .int p1)]) (by decide) (Nat.le_of_ble_eq_true rfl) rfl (fun x hl hg C hret => ?_)
  subst hl; subst hg
  rw [f_Mo_bits] at hf
  refine r_iconst C (v := 0) eX11_bits_0 (by decide) ?_
  refine r_istore_n C [(1, .int 0), (0, .int p1)] eX11_bits_1 rfl (by decide) rfl ?_
  refine r_iconst C (v := 0) eX11_bits_2 (by decide) ?_
  refine r_istore_n C [(2, .int 0), (1, .int 0), (0, .int p1)] eX11_bits_3 rfl (by decide) rfl ?_
  obtain ⟨q2, h3, hf⟩ := zbind hf
  have J4 : vV x 3 0 0 ([]) 24 [(1, .int (q2.1))] [] := by
    refine r_iload_n C eX11_bits_24 0 rfl rfl ?_
    obtain rfl := Option.some.inj (show some ((q2.1) : Int32) = some _ from hf)
    exact hret _ _ _ eX11_bits_25
  have L5 : ∀ (nL5 : Nat) (s1 : Int32 × Int32), lp (fB_Mo_bits_4 p1) nL5 s1 = some q2 → vV x 3 0 0 ([]) 4 [(0, .int p1), (1, .int (s1.1)), (2, .int (s1.2))] [] := by
    intro nL5
    induction nL5 with
    | zero => intro s1 hq; cases hq
    | succ nL5 ihL5 =>
      intro s1 hbL5
      rw [lp_succ, fB_Mo_bits_4] at hbL5
      refine r_iload_n C eX11_bits_4 2 rfl rfl ?_
      refine r_bipush C (v := 24) eX11_bits_5 (by decide) ?_
      refine r_icmp_ge C eX11_bits_7 (fun c6 => ?_) (fun c6 => ?_)
      · rw [if_pos c6] at hbL5
        obtain rfl := Option.some.inj hbL5
        refine r_sub (lv' := [(1, .int (s1.1))]) [1] rfl ?_
        exact J4
      · rw [if_neg c6] at hbL5
        refine r_iload_n C eX11_bits_10 1 rfl rfl ?_
        refine r_iload_n C eX11_bits_11 0 rfl rfl ?_
        refine r_iload_n C eX11_bits_12 2 rfl rfl ?_
        refine r_ishr C eX11_bits_13 ?_
        refine r_iconst C (v := 1) eX11_bits_14 (by decide) ?_
        refine r_iand C eX11_bits_15 ?_
        refine r_iadd C eX11_bits_16 ?_
        obtain ⟨z7, hz7, hbL5⟩ := zlet_of hbL5
        refine r_nami hz7 ?_
        refine r_istore_n C [(1, .int z7), (0, .int p1), (2, .int (s1.2))] eX11_bits_17 rfl (by decide) rfl ?_
        refine r_iinc C (v := ((s1.2) + 1)) [(2, .int ((s1.2) + 1)), (1, .int z7), (0, .int p1)] eX11_bits_18 2 rfl rfl (by decide) rfl ?_
        refine r_goto C eX11_bits_21 ?_
        refine r_sub (lv' := [(0, .int p1), (1, .int z7), (2, .int ((s1.2) + 1))]) [2, 1, 0] rfl ?_
        have hc := ihL5 (z7, ((s1.2) + 1)) hbL5
        exact hc
  refine r_sub (lv' := [(0, .int p1), (1, .int 0), (2, .int 0)]) [2, 1, 0] rfl ?_
  have hc := L5 LF (0, 0) h3
  exact hc
theorem eX11_steer_0 : zd 1 cX11_steer 0 1 (.iconst 0) := ⟨by decide +kernel, rfl⟩
theorem eX11_steer_1 : zd 1 cX11_steer 1 2 (.istore_n 2) := ⟨by decide +kernel, rfl⟩
theorem eX11_steer_2 : zd 1 cX11_steer 2 3 (.iload_n 2) := ⟨by decide +kernel, rfl⟩
theorem eX11_steer_3 : zd 1 cX11_steer 3 4 (.aload_n 0) := ⟨by decide +kernel, rfl⟩
theorem eX11_steer_4 : zd 3 cX11_steer 4 7 (.getfield 187) := ⟨by decide +kernel, rfl⟩
theorem eX11_steer_7 : zdi cX11_steer 7 10 64 (.if_icmp .ge) := ⟨57, by decide +kernel, rfl, by decide⟩
theorem eX11_steer_10 : zd 1 cX11_steer 10 11 (.aload_n 0) := ⟨by decide +kernel, rfl⟩
theorem eX11_steer_11 : zd 3 cX11_steer 11 14 (.getfield 19) := ⟨by decide +kernel, rfl⟩
theorem eX11_steer_14 : zd 1 cX11_steer 14 15 (.iconst 3) := ⟨by decide +kernel, rfl⟩
theorem eX11_steer_15 : zd 1 cX11_steer 15 16 (.iload_n 2) := ⟨by decide +kernel, rfl⟩
theorem eX11_steer_16 : zd 1 cX11_steer 16 17 (.imul) := ⟨by decide +kernel, rfl⟩
theorem eX11_steer_17 : zd 1 cX11_steer 17 18 (.iaload) := ⟨by decide +kernel, rfl⟩
theorem eX11_steer_18 : zd 1 cX11_steer 18 19 (.iload_n 1) := ⟨by decide +kernel, rfl⟩
theorem eX11_steer_19 : zdi cX11_steer 19 22 58 (.if_icmp .ne) := ⟨39, by decide +kernel, rfl, by decide⟩
theorem eX11_steer_22 : zd 1 cX11_steer 22 23 (.aload_n 0) := ⟨by decide +kernel, rfl⟩
theorem eX11_steer_23 : zd 3 cX11_steer 23 26 (.getfield 25) := ⟨by decide +kernel, rfl⟩
theorem eX11_steer_26 : zd 2 cX11_steer 26 28 (.bipush 6) := ⟨by decide +kernel, rfl⟩
theorem eX11_steer_28 : zd 1 cX11_steer 28 29 (.aload_n 0) := ⟨by decide +kernel, rfl⟩
theorem eX11_steer_29 : zd 3 cX11_steer 29 32 (.getfield 19) := ⟨by decide +kernel, rfl⟩
theorem eX11_steer_32 : zd 1 cX11_steer 32 33 (.iconst 3) := ⟨by decide +kernel, rfl⟩
theorem eX11_steer_33 : zd 1 cX11_steer 33 34 (.iload_n 2) := ⟨by decide +kernel, rfl⟩
theorem eX11_steer_34 : zd 1 cX11_steer 34 35 (.imul) := ⟨by decide +kernel, rfl⟩
theorem eX11_steer_35 : zd 1 cX11_steer 35 36 (.iconst 1) := ⟨by decide +kernel, rfl⟩
theorem eX11_steer_36 : zd 1 cX11_steer 36 37 (.iadd) := ⟨by decide +kernel, rfl⟩
theorem eX11_steer_37 : zd 1 cX11_steer 37 38 (.iaload) := ⟨by decide +kernel, rfl⟩
theorem eX11_steer_38 : zd 1 cX11_steer 38 39 (.i2l) := ⟨by decide +kernel, rfl⟩
theorem eX11_steer_39 : zd 1 cX11_steer 39 40 (.lastore) := ⟨by decide +kernel, rfl⟩
theorem eX11_steer_40 : zd 1 cX11_steer 40 41 (.aload_n 0) := ⟨by decide +kernel, rfl⟩
theorem eX11_steer_41 : zd 3 cX11_steer 41 44 (.getfield 25) := ⟨by decide +kernel, rfl⟩
theorem eX11_steer_44 : zd 2 cX11_steer 44 46 (.bipush 7) := ⟨by decide +kernel, rfl⟩
theorem eX11_steer_46 : zd 1 cX11_steer 46 47 (.aload_n 0) := ⟨by decide +kernel, rfl⟩
theorem eX11_steer_47 : zd 3 cX11_steer 47 50 (.getfield 19) := ⟨by decide +kernel, rfl⟩
theorem eX11_steer_50 : zd 1 cX11_steer 50 51 (.iconst 3) := ⟨by decide +kernel, rfl⟩
theorem eX11_steer_51 : zd 1 cX11_steer 51 52 (.iload_n 2) := ⟨by decide +kernel, rfl⟩
theorem eX11_steer_52 : zd 1 cX11_steer 52 53 (.imul) := ⟨by decide +kernel, rfl⟩
theorem eX11_steer_53 : zd 1 cX11_steer 53 54 (.iconst 2) := ⟨by decide +kernel, rfl⟩
theorem eX11_steer_54 : zd 1 cX11_steer 54 55 (.iadd) := ⟨by decide +kernel, rfl⟩
theorem eX11_steer_55 : zd 1 cX11_steer 55 56 (.iaload) := ⟨by decide +kernel, rfl⟩
theorem eX11_steer_56 : zd 1 cX11_steer 56 57 (.i2l) := ⟨by decide +kernel, rfl⟩
theorem eX11_steer_57 : zd 1 cX11_steer 57 58 (.lastore) := ⟨by decide +kernel, rfl⟩
theorem eX11_steer_58 : zd 3 cX11_steer 58 61 (.iinc 2 1) := ⟨by decide +kernel, rfl⟩
theorem eX11_steer_61 : zdi cX11_steer 61 64 2 (.goto) := ⟨(-59), by decide +kernel, rfl, by decide⟩
theorem eX11_steer_64 : zd 1 cX11_steer 64 65 (.return_) := ⟨by decide +kernel, rfl⟩
theorem FX11_19 : zlF RX11 19 11 5 := ⟨(RX11, TX11, 34), rfl, by decide, q1076, zin11⟩
theorem FX11_187 : zlF RX11 187 11 4 := ⟨(RX11, TX11, 34), rfl, by decide, q1075, zin11⟩
noncomputable def fB_Mo_steer_2 (v0 : tMo) (p1 : Int32) (ih : (Int32 × (Nat → Int64)) → Option (Int32 × (Nat → Int64))) (s1 : Int32 × (Nat → Int64)) : Option (Int32 × (Nat → Int64)) := (if ((gMo_ints v0) 4) ≤ (s1.1) then (some ((s1.1), (s1.2))) else (if inb (3 * (s1.1)) 60 = true then (if ((gMo_atRow v0) (ix (3 * (s1.1)))) = p1 then (if inb ((3 * (s1.1)) + 1) 60 = true then (zlet ((gMo_atRow v0) (ix ((3 * (s1.1)) + 1))).toInt64 (fun (z10 : Int64) => (if inb ((3 * (s1.1)) + 2) 60 = true then (zlet ((gMo_atRow v0) (ix ((3 * (s1.1)) + 2))).toInt64 (fun (z12 : Int64) => (ih (((s1.1) + 1), (vp_updL (vp_updL (s1.2) 6 z10) 7 z12))))) else none))) else none) else (ih (((s1.1) + 1), (s1.2)))) else none))
noncomputable def f_Mo_steer (v0 : tMo) (p1 : Int32) : Option ((Nat → Int64)) := (Option.bind (lp (fB_Mo_steer_2 v0 p1) LF (0, (gMo_ship v0))) (fun (q2 : Int32 × (Nat → Int64)) => (some (q2.2))))
abbrev rm_Mo_steer : Room := { frames := 0, cells := 0, slots := 0, locals := 0 }
set_option maxHeartbeats 4000000 in
set_option maxRecDepth 100000 in
theorem c_Mo_steer (l : Launch) (g : zGl) (a0 : Nat → Nat) (o0 : Nat) (v0 : tMo) (p1 : Int32) (out : (Nat → Int64)) (hf : f_Mo_steer v0 p1 = some out) : zMv l yX11_steer cX11_steer 3 rm_Mo_steer g [.ref (a0 o0), .int p1] (W_Mo g a0 o0 (gMo_ints v0) (gMo_told v0) (gMo_postX v0) (gMo_postStrong v0) (gMo_atRow v0) (gMo_heights v0) (gMo_ship v0) (gMo_lines v0) (gMo_text v0) (gMo_said v0) (gMo_readTold v0) (gMo_readX v0) (gMo_readStrong v0) (gMo_readRow v0) (gMo_parting v0) (gMo_wasShip v0) (gMo_wasLines v0) (gMo_worst v0) (gMo_logRow v0) (gMo_images v0) (gMo_isKept v0))  (W_Mo g a0 o0 (gMo_ints v0) (gMo_told v0) (gMo_postX v0) (gMo_postStrong v0) (gMo_atRow v0) (gMo_heights v0) out (gMo_lines v0) (gMo_text v0) (gMo_said v0) (gMo_readTold v0) (gMo_readX v0) (gMo_readStrong v0) (gMo_readRow v0) (gMo_parting v0) (gMo_wasShip v0) (gMo_wasLines v0) (gMo_worst v0) (gMo_logRow v0) (gMo_images v0) (gMo_isKept v0)) := by
  refine zMv_of (lv := [(0, .ref (a0 o0)), (1, .int p1)]) (by decide) (Nat.le_of_ble_eq_true rfl) rfl (fun x hl hg C hret => ?_)
  subst hl; subst hg
  rw [f_Mo_steer] at hf
  refine r_iconst C (v := 0) eX11_steer_0 (by decide) ?_
  refine r_istore_n C [(2, .int 0), (0, .ref (a0 o0)), (1, .int p1)] eX11_steer_1 rfl (by decide) rfl ?_
  obtain ⟨q2, h3, hf⟩ := zbind hf
  have J4 : vV x 3 0 0 (W_Mo (z_g x) a0 o0 (gMo_ints v0) (gMo_told v0) (gMo_postX v0) (gMo_postStrong v0) (gMo_atRow v0) (gMo_heights v0) (q2.2) (gMo_lines v0) (gMo_text v0) (gMo_said v0) (gMo_readTold v0) (gMo_readX v0) (gMo_readStrong v0) (gMo_readRow v0) (gMo_parting v0) (gMo_wasShip v0) (gMo_wasLines v0) (gMo_worst v0) (gMo_logRow v0) (gMo_images v0) (gMo_isKept v0)) 64 [] [] := by
    obtain rfl := Option.some.inj (show some ((q2.2) : (Nat → Int64)) = some _ from hf)
    exact hret _ _ _ eX11_steer_64
  have L5 : ∀ (nL5 : Nat) (s1 : Int32 × (Nat → Int64)), lp (fB_Mo_steer_2 v0 p1) nL5 s1 = some q2 → vV x 3 0 0 (W_Mo (z_g x) a0 o0 (gMo_ints v0) (gMo_told v0) (gMo_postX v0) (gMo_postStrong v0) (gMo_atRow v0) (gMo_heights v0) (s1.2) (gMo_lines v0) (gMo_text v0) (gMo_said v0) (gMo_readTold v0) (gMo_readX v0) (gMo_readStrong v0) (gMo_readRow v0) (gMo_parting v0) (gMo_wasShip v0) (gMo_wasLines v0) (gMo_worst v0) (gMo_logRow v0) (gMo_images v0) (gMo_isKept v0)) 2 [(0, .ref (a0 o0)), (1, .int p1), (2, .int (s1.1))] [] := by
    intro nL5
    induction nL5 with
    | zero => intro s1 hq; cases hq
    | succ nL5 ihL5 =>
      intro s1 hbL5
      rw [lp_succ, fB_Mo_steer_2] at hbL5
      refine r_iload_n C eX11_steer_2 2 rfl rfl ?_
      refine r_aload_n C eX11_steer_3 0 rfl rfl ?_
      refine r_get (v := .int ((gMo_ints v0) 4)) C eX11_steer_4 FX11_187 0 rfl rfl ?_
      refine r_icmp_ge C eX11_steer_7 (fun c6 => ?_) (fun c6 => ?_)
      · rw [if_pos c6] at hbL5
        obtain rfl := Option.some.inj hbL5
        refine r_sub (lv' := []) [] rfl ?_
        exact J4
      · rw [if_neg c6] at hbL5
        refine r_aload_n C eX11_steer_10 0 rfl rfl ?_
        refine r_get (v := .ref (a0 (o0 + 4))) C eX11_steer_11 FX11_19 0 rfl rfl ?_
        refine r_iconst C (v := 3) eX11_steer_14 (by decide) ?_
        refine r_iload_n C eX11_steer_15 2 rfl rfl ?_
        refine r_imul C eX11_steer_16 ?_
        obtain ⟨hb7, hbL5⟩ := zchk hbL5
        refine r_iald C eX11_steer_17 4 rfl (inb_in hb7) ((gMo_atRow v0) (ix (3 * (s1.1)))) rfl ?_
        refine r_iload_n C eX11_steer_18 1 rfl rfl ?_
        refine r_icmp_ne C eX11_steer_19 (fun c8 => ?_) (fun c8 => ?_)
        · rw [if_neg c8] at hbL5
          refine r_iinc C (v := ((s1.1) + 1)) [(2, .int ((s1.1) + 1)), (0, .ref (a0 o0)), (1, .int p1)] eX11_steer_58 2 rfl rfl (by decide) rfl ?_
          refine r_goto C eX11_steer_61 ?_
          refine r_sub (lv' := [(0, .ref (a0 o0)), (1, .int p1), (2, .int ((s1.1) + 1))]) [1, 2, 0] rfl ?_
          have hc := ihL5 (((s1.1) + 1), (s1.2)) hbL5
          exact hc
        · rw [if_pos c8] at hbL5
          refine r_aload_n C eX11_steer_22 0 rfl rfl ?_
          refine r_get (v := .ref (a0 (o0 + 6))) C eX11_steer_23 FX11_25 0 rfl rfl ?_
          refine r_bipush C (v := 6) eX11_steer_26 (by decide) ?_
          refine r_aload_n C eX11_steer_28 0 rfl rfl ?_
          refine r_get (v := .ref (a0 (o0 + 4))) C eX11_steer_29 FX11_19 0 rfl rfl ?_
          refine r_iconst C (v := 3) eX11_steer_32 (by decide) ?_
          refine r_iload_n C eX11_steer_33 2 rfl rfl ?_
          refine r_imul C eX11_steer_34 ?_
          refine r_iconst C (v := 1) eX11_steer_35 (by decide) ?_
          refine r_iadd C eX11_steer_36 ?_
          obtain ⟨hb9, hbL5⟩ := zchk hbL5
          refine r_iald C eX11_steer_37 4 rfl (inb_in hb9) ((gMo_atRow v0) (ix ((3 * (s1.1)) + 1))) rfl ?_
          refine r_i2l C eX11_steer_38 ?_
          obtain ⟨z10, hz10, hbL5⟩ := zlet_of hbL5
          refine r_naml hz10 ?_
          refine r_lastN (ws' := W_Mo (z_g x) a0 o0 (gMo_ints v0) (gMo_told v0) (gMo_postX v0) (gMo_postStrong v0) (gMo_atRow v0) (gMo_heights v0) (vp_updL (s1.2) 6 z10) (gMo_lines v0) (gMo_text v0) (gMo_said v0) (gMo_readTold v0) (gMo_readX v0) (gMo_readStrong v0) (gMo_readRow v0) (gMo_parting v0) (gMo_wasShip v0) (gMo_wasLines v0) (gMo_worst v0) (gMo_logRow v0) (gMo_images v0) (gMo_isKept v0)) C eX11_steer_39 6 6 (by decide) rfl rfl ?_
          refine r_aload_n C eX11_steer_40 0 rfl rfl ?_
          refine r_get (v := .ref (a0 (o0 + 6))) C eX11_steer_41 FX11_25 0 rfl rfl ?_
          refine r_bipush C (v := 7) eX11_steer_44 (by decide) ?_
          refine r_aload_n C eX11_steer_46 0 rfl rfl ?_
          refine r_get (v := .ref (a0 (o0 + 4))) C eX11_steer_47 FX11_19 0 rfl rfl ?_
          refine r_iconst C (v := 3) eX11_steer_50 (by decide) ?_
          refine r_iload_n C eX11_steer_51 2 rfl rfl ?_
          refine r_imul C eX11_steer_52 ?_
          refine r_iconst C (v := 2) eX11_steer_53 (by decide) ?_
          refine r_iadd C eX11_steer_54 ?_
          obtain ⟨hb11, hbL5⟩ := zchk hbL5
          refine r_iald C eX11_steer_55 4 rfl (inb_in hb11) ((gMo_atRow v0) (ix ((3 * (s1.1)) + 2))) rfl ?_
          refine r_i2l C eX11_steer_56 ?_
          obtain ⟨z12, hz12, hbL5⟩ := zlet_of hbL5
          refine r_naml hz12 ?_
          refine r_lastN (ws' := W_Mo (z_g x) a0 o0 (gMo_ints v0) (gMo_told v0) (gMo_postX v0) (gMo_postStrong v0) (gMo_atRow v0) (gMo_heights v0) (vp_updL (vp_updL (s1.2) 6 z10) 7 z12) (gMo_lines v0) (gMo_text v0) (gMo_said v0) (gMo_readTold v0) (gMo_readX v0) (gMo_readStrong v0) (gMo_readRow v0) (gMo_parting v0) (gMo_wasShip v0) (gMo_wasLines v0) (gMo_worst v0) (gMo_logRow v0) (gMo_images v0) (gMo_isKept v0)) C eX11_steer_57 6 7 (by decide) rfl rfl ?_
          refine r_iinc C (v := ((s1.1) + 1)) [(2, .int ((s1.1) + 1)), (0, .ref (a0 o0)), (1, .int p1)] eX11_steer_58 2 rfl rfl (by decide) rfl ?_
          refine r_goto C eX11_steer_61 ?_
          refine r_sub (lv' := [(0, .ref (a0 o0)), (1, .int p1), (2, .int ((s1.1) + 1))]) [1, 2, 0] rfl ?_
          have hc := ihL5 (((s1.1) + 1), (vp_updL (vp_updL (s1.2) 6 z10) 7 z12)) hbL5
          exact hc
  refine r_sub (lv' := [(0, .ref (a0 o0)), (1, .int p1), (2, .int 0)]) [1, 2, 0] rfl ?_
  have hc := L5 LF (0, (gMo_ship v0)) h3
  exact hc
theorem eX11_byPlan_0 : zd 1 cX11_byPlan 0 1 (.iconst 0) := ⟨by decide +kernel, rfl⟩
theorem eX11_byPlan_1 : zd 1 cX11_byPlan 1 2 (.istore_n 2) := ⟨by decide +kernel, rfl⟩
theorem eX11_byPlan_2 : zd 1 cX11_byPlan 2 3 (.iconst 0) := ⟨by decide +kernel, rfl⟩
theorem eX11_byPlan_3 : zd 1 cX11_byPlan 3 4 (.istore_n 3) := ⟨by decide +kernel, rfl⟩
theorem eX11_byPlan_4 : zd 1 cX11_byPlan 4 5 (.iload_n 3) := ⟨by decide +kernel, rfl⟩
theorem eX11_byPlan_5 : zd 1 cX11_byPlan 5 6 (.iload_n 1) := ⟨by decide +kernel, rfl⟩
theorem eX11_byPlan_6 : zdi cX11_byPlan 6 9 27 (.if_icmp .ge) := ⟨21, by decide +kernel, rfl, by decide⟩
theorem eX11_byPlan_9 : zd 1 cX11_byPlan 9 10 (.aload_n 0) := ⟨by decide +kernel, rfl⟩
theorem eX11_byPlan_10 : zd 1 cX11_byPlan 10 11 (.iload_n 3) := ⟨by decide +kernel, rfl⟩
theorem eX11_byPlan_11 : zd 3 cX11_byPlan 11 14 (.invokevirtual 315) := ⟨by decide +kernel, rfl⟩
theorem eX11_byPlan_14 : zd 1 cX11_byPlan 14 15 (.iload_n 2) := ⟨by decide +kernel, rfl⟩
theorem eX11_byPlan_15 : zd 1 cX11_byPlan 15 16 (.aload_n 0) := ⟨by decide +kernel, rfl⟩
theorem eX11_byPlan_16 : zd 3 cX11_byPlan 16 19 (.invokevirtual 312) := ⟨by decide +kernel, rfl⟩
theorem eX11_byPlan_19 : zd 1 cX11_byPlan 19 20 (.iadd) := ⟨by decide +kernel, rfl⟩
theorem eX11_byPlan_20 : zd 1 cX11_byPlan 20 21 (.istore_n 2) := ⟨by decide +kernel, rfl⟩
theorem eX11_byPlan_21 : zd 3 cX11_byPlan 21 24 (.iinc 3 1) := ⟨by decide +kernel, rfl⟩
theorem eX11_byPlan_24 : zdi cX11_byPlan 24 27 4 (.goto) := ⟨(-20), by decide +kernel, rfl, by decide⟩
theorem eX11_byPlan_27 : zd 1 cX11_byPlan 27 28 (.iload_n 2) := ⟨by decide +kernel, rfl⟩
theorem eX11_byPlan_28 : zd 1 cX11_byPlan 28 29 (.ireturn) := ⟨by decide +kernel, rfl⟩
theorem MX11_315 : zlV RX11 315 yX11_steer cX11_steer 3 (none) 1 := ⟨q1395, q1397, qs54, q12, q1398, by decide, by decide, by decide +kernel⟩
noncomputable def fB_Mo_byPlan_4 (v0 : tMo) (p1 : Int32) (ih : (Int32 × Int32 × (Nat → Int64) × (Nat → Int32) × (Nat → Int32)) → Option (Int32 × Int32 × (Nat → Int64) × (Nat → Int32) × (Nat → Int32))) (s1 : Int32 × Int32 × (Nat → Int64) × (Nat → Int32) × (Nat → Int32)) : Option (Int32 × Int32 × (Nat → Int64) × (Nat → Int32) × (Nat → Int32)) := (if p1 ≤ (s1.2.1) then (some ((s1.1), (s1.2.1), (s1.2.2.1), (s1.2.2.2.1), (s1.2.2.2.2))) else (Option.bind (f_Mo_steer ((gMo_ints v0), (gMo_told v0), (gMo_postX v0), (gMo_postStrong v0), (gMo_atRow v0), (gMo_heights v0), (s1.2.2.1), (s1.2.2.2.1), (gMo_text v0), (gMo_said v0), (gMo_readTold v0), (gMo_readX v0), (gMo_readStrong v0), (gMo_readRow v0), (s1.2.2.2.2), (gMo_wasShip v0), (gMo_wasLines v0), (gMo_worst v0), (gMo_logRow v0), (gMo_images v0), (gMo_isKept v0)) (s1.2.1)) (fun (r7 : (Nat → Int64)) => (Option.bind (f_Mo_second ((gMo_ints v0), (gMo_told v0), (gMo_postX v0), (gMo_postStrong v0), (gMo_atRow v0), (gMo_heights v0), r7, (s1.2.2.2.1), (gMo_text v0), (gMo_said v0), (gMo_readTold v0), (gMo_readX v0), (gMo_readStrong v0), (gMo_readRow v0), (s1.2.2.2.2), (gMo_wasShip v0), (gMo_wasLines v0), (gMo_worst v0), (gMo_logRow v0), (gMo_images v0), (gMo_isKept v0))) (fun (r8 : Int32 × (Nat → Int64) × (Nat → Int32) × (Nat → Int32)) => (zlet ((s1.1) + (r8.1)) (fun (z9 : Int32) => (ih (z9, ((s1.2.1) + 1), (r8.2.1), (r8.2.2.1), (r8.2.2.2))))))))))
noncomputable def f_Mo_byPlan (v0 : tMo) (p1 : Int32) : Option (Int32 × (Nat → Int64) × (Nat → Int32) × (Nat → Int32)) := (Option.bind (lp (fB_Mo_byPlan_4 v0 p1) LF (0, 0, (gMo_ship v0), (gMo_lines v0), (gMo_parting v0))) (fun (q2 : Int32 × Int32 × (Nat → Int64) × (Nat → Int32) × (Nat → Int32)) => (some ((q2.1), (q2.2.2.1), (q2.2.2.2.1), (q2.2.2.2.2)))))
abbrev rm_Mo_byPlan : Room := { frames := 7, cells := 0, slots := 0, locals := 173 }
set_option maxHeartbeats 4000000 in
set_option maxRecDepth 100000 in
theorem c_Mo_byPlan (l : Launch) (g : zGl) (a0 : Nat → Nat) (o0 : Nat) (v0 : tMo) (p1 : Int32) (out : Int32 × (Nat → Int64) × (Nat → Int32) × (Nat → Int32)) (hf : f_Mo_byPlan v0 p1 = some out) : zMi l yX11_byPlan cX11_byPlan 4 rm_Mo_byPlan g [.ref (a0 o0), .int p1] (W_Mo g a0 o0 (gMo_ints v0) (gMo_told v0) (gMo_postX v0) (gMo_postStrong v0) (gMo_atRow v0) (gMo_heights v0) (gMo_ship v0) (gMo_lines v0) (gMo_text v0) (gMo_said v0) (gMo_readTold v0) (gMo_readX v0) (gMo_readStrong v0) (gMo_readRow v0) (gMo_parting v0) (gMo_wasShip v0) (gMo_wasLines v0) (gMo_worst v0) (gMo_logRow v0) (gMo_images v0) (gMo_isKept v0)) (out.1) (W_Mo g a0 o0 (gMo_ints v0) (gMo_told v0) (gMo_postX v0) (gMo_postStrong v0) (gMo_atRow v0) (gMo_heights v0) (out.2.1) (out.2.2.1) (gMo_text v0) (gMo_said v0) (gMo_readTold v0) (gMo_readX v0) (gMo_readStrong v0) (gMo_readRow v0) (out.2.2.2) (gMo_wasShip v0) (gMo_wasLines v0) (gMo_worst v0) (gMo_logRow v0) (gMo_images v0) (gMo_isKept v0)) := by
  refine zMi_of (lv := [(0, .ref (a0 o0)), (1, .int p1)]) (by decide) (Nat.le_of_ble_eq_true rfl) rfl (fun x hl hg C hret => ?_)
  subst hl; subst hg
  rw [f_Mo_byPlan] at hf
  refine r_iconst C (v := 0) eX11_byPlan_0 (by decide) ?_
  refine r_istore_n C [(2, .int 0), (0, .ref (a0 o0)), (1, .int p1)] eX11_byPlan_1 rfl (by decide) rfl ?_
  refine r_iconst C (v := 0) eX11_byPlan_2 (by decide) ?_
  refine r_istore_n C [(3, .int 0), (2, .int 0), (0, .ref (a0 o0)), (1, .int p1)] eX11_byPlan_3 rfl (by decide) rfl ?_
  obtain ⟨q2, h3, hf⟩ := zbind hf
  have J4 : vV x 4 0 0 (W_Mo (z_g x) a0 o0 (gMo_ints v0) (gMo_told v0) (gMo_postX v0) (gMo_postStrong v0) (gMo_atRow v0) (gMo_heights v0) (q2.2.2.1) (q2.2.2.2.1) (gMo_text v0) (gMo_said v0) (gMo_readTold v0) (gMo_readX v0) (gMo_readStrong v0) (gMo_readRow v0) (q2.2.2.2.2) (gMo_wasShip v0) (gMo_wasLines v0) (gMo_worst v0) (gMo_logRow v0) (gMo_images v0) (gMo_isKept v0)) 27 [(2, .int (q2.1))] [] := by
    refine r_iload_n C eX11_byPlan_27 0 rfl rfl ?_
    obtain rfl := Option.some.inj (show some (((q2.1), (q2.2.2.1), (q2.2.2.2.1), (q2.2.2.2.2)) : Int32 × (Nat → Int64) × (Nat → Int32) × (Nat → Int32)) = some _ from hf)
    exact hret _ _ _ eX11_byPlan_28
  have L5 : ∀ (nL5 : Nat) (s1 : Int32 × Int32 × (Nat → Int64) × (Nat → Int32) × (Nat → Int32)), lp (fB_Mo_byPlan_4 v0 p1) nL5 s1 = some q2 → vV x 4 0 0 (W_Mo (z_g x) a0 o0 (gMo_ints v0) (gMo_told v0) (gMo_postX v0) (gMo_postStrong v0) (gMo_atRow v0) (gMo_heights v0) (s1.2.2.1) (s1.2.2.2.1) (gMo_text v0) (gMo_said v0) (gMo_readTold v0) (gMo_readX v0) (gMo_readStrong v0) (gMo_readRow v0) (s1.2.2.2.2) (gMo_wasShip v0) (gMo_wasLines v0) (gMo_worst v0) (gMo_logRow v0) (gMo_images v0) (gMo_isKept v0)) 4 [(0, .ref (a0 o0)), (1, .int p1), (2, .int (s1.1)), (3, .int (s1.2.1))] [] := by
    intro nL5
    induction nL5 with
    | zero => intro s1 hq; cases hq
    | succ nL5 ihL5 =>
      intro s1 hbL5
      rw [lp_succ, fB_Mo_byPlan_4] at hbL5
      refine r_iload_n C eX11_byPlan_4 3 rfl rfl ?_
      refine r_iload_n C eX11_byPlan_5 1 rfl rfl ?_
      refine r_icmp_ge C eX11_byPlan_6 (fun c6 => ?_) (fun c6 => ?_)
      · rw [if_pos c6] at hbL5
        obtain rfl := Option.some.inj hbL5
        refine r_sub (lv' := [(2, .int (s1.1))]) [2] rfl ?_
        exact J4
      · rw [if_neg c6] at hbL5
        refine r_aload_n C eX11_byPlan_9 0 rfl rfl ?_
        refine r_iload_n C eX11_byPlan_10 3 rfl rfl ?_
        obtain ⟨r7, hr7, hbL5⟩ := zbind hbL5
        refine r_V_v (ws' := W_Mo (z_g x) a0 o0 (gMo_ints v0) (gMo_told v0) (gMo_postX v0) (gMo_postStrong v0) (gMo_atRow v0) (gMo_heights v0) r7 (s1.2.2.2.1) (gMo_text v0) (gMo_said v0) (gMo_readTold v0) (gMo_readX v0) (gMo_readStrong v0) (gMo_readRow v0) (s1.2.2.2.2) (gMo_wasShip v0) (gMo_wasLines v0) (gMo_worst v0) (gMo_logRow v0) (gMo_images v0) (gMo_isKept v0)) C (c_Mo_steer (z_l x) (z_g x) a0 o0 ((gMo_ints v0), (gMo_told v0), (gMo_postX v0), (gMo_postStrong v0), (gMo_atRow v0), (gMo_heights v0), (s1.2.2.1), (s1.2.2.2.1), (gMo_text v0), (gMo_said v0), (gMo_readTold v0), (gMo_readX v0), (gMo_readStrong v0), (gMo_readRow v0), (s1.2.2.2.2), (gMo_wasShip v0), (gMo_wasLines v0), (gMo_worst v0), (gMo_logRow v0), (gMo_images v0), (gMo_isKept v0)) (s1.2.1) r7 hr7) eX11_byPlan_11 MX11_315 ⟨0, 11, _, _, rfl, rfl, rfl⟩ [0, 1, 2, 3, 4, 5, 6, 7, 8, 9, 10, 11, 12, 13, 14, 15, 16, 17, 18, 19] rfl rfl rfl rfl [] rfl trivial 20 rfl rfl rfl rfl rfl rfl ?_
        refine r_iload_n C eX11_byPlan_14 2 rfl rfl ?_
        refine r_aload_n C eX11_byPlan_15 0 rfl rfl ?_
        obtain ⟨r8, hr8, hbL5⟩ := zbind hbL5
        refine r_V_i (ws' := W_Mo (z_g x) a0 o0 (gMo_ints v0) (gMo_told v0) (gMo_postX v0) (gMo_postStrong v0) (gMo_atRow v0) (gMo_heights v0) (r8.2.1) (r8.2.2.1) (gMo_text v0) (gMo_said v0) (gMo_readTold v0) (gMo_readX v0) (gMo_readStrong v0) (gMo_readRow v0) (r8.2.2.2) (gMo_wasShip v0) (gMo_wasLines v0) (gMo_worst v0) (gMo_logRow v0) (gMo_images v0) (gMo_isKept v0)) C (c_Mo_second (z_l x) (z_g x) a0 o0 ((gMo_ints v0), (gMo_told v0), (gMo_postX v0), (gMo_postStrong v0), (gMo_atRow v0), (gMo_heights v0), r7, (s1.2.2.2.1), (gMo_text v0), (gMo_said v0), (gMo_readTold v0), (gMo_readX v0), (gMo_readStrong v0), (gMo_readRow v0), (s1.2.2.2.2), (gMo_wasShip v0), (gMo_wasLines v0), (gMo_worst v0), (gMo_logRow v0), (gMo_images v0), (gMo_isKept v0))  r8 hr8) eX11_byPlan_16 MX11_312 ⟨0, 11, _, _, rfl, rfl, rfl⟩ [0, 1, 2, 3, 4, 5, 6, 7, 8, 9, 10, 11, 12, 13, 14, 15, 16, 17, 18, 19] rfl rfl rfl rfl [] rfl trivial 20 rfl rfl rfl rfl rfl rfl ?_
        refine r_iadd C eX11_byPlan_19 ?_
        obtain ⟨z9, hz9, hbL5⟩ := zlet_of hbL5
        refine r_nami hz9 ?_
        refine r_istore_n C [(2, .int z9), (0, .ref (a0 o0)), (1, .int p1), (3, .int (s1.2.1))] eX11_byPlan_20 rfl (by decide) rfl ?_
        refine r_iinc C (v := ((s1.2.1) + 1)) [(3, .int ((s1.2.1) + 1)), (2, .int z9), (0, .ref (a0 o0)), (1, .int p1)] eX11_byPlan_21 3 rfl rfl (by decide) rfl ?_
        refine r_goto C eX11_byPlan_24 ?_
        refine r_sub (lv' := [(0, .ref (a0 o0)), (1, .int p1), (2, .int z9), (3, .int ((s1.2.1) + 1))]) [2, 3, 1, 0] rfl ?_
        have hc := ihL5 (z9, ((s1.2.1) + 1), (r8.2.1), (r8.2.2.1), (r8.2.2.2)) hbL5
        exact hc
  refine r_sub (lv' := [(0, .ref (a0 o0)), (1, .int p1), (2, .int 0), (3, .int 0)]) [2, 3, 1, 0] rfl ?_
  have hc := L5 LF (0, 0, (gMo_ship v0), (gMo_lines v0), (gMo_parting v0)) h3
  exact hc
theorem eX11_cast_0 : zd 1 cX11_cast 0 1 (.aload_n 0) := ⟨by decide +kernel, rfl⟩
theorem eX11_cast_1 : zd 1 cX11_cast 1 2 (.iload_n 1) := ⟨by decide +kernel, rfl⟩
theorem eX11_cast_2 : zd 3 cX11_cast 2 5 (.invokevirtual 243) := ⟨by decide +kernel, rfl⟩
theorem eX11_cast_5 : zdi cX11_cast 5 8 11 (.ifCond .ne) := ⟨6, by decide +kernel, rfl, by decide⟩
theorem eX11_cast_8 : zd 2 cX11_cast 8 10 (.ldc 202) := ⟨by decide +kernel, rfl⟩
theorem eX11_cast_10 : zd 1 cX11_cast 10 11 (.ireturn) := ⟨by decide +kernel, rfl⟩
theorem eX11_cast_11 : zd 1 cX11_cast 11 12 (.aload_n 0) := ⟨by decide +kernel, rfl⟩
theorem eX11_cast_12 : zd 3 cX11_cast 12 15 (.getfield 29) := ⟨by decide +kernel, rfl⟩
theorem eX11_cast_15 : zd 1 cX11_cast 15 16 (.iconst 4) := ⟨by decide +kernel, rfl⟩
theorem eX11_cast_16 : zd 1 cX11_cast 16 17 (.iload_n 1) := ⟨by decide +kernel, rfl⟩
theorem eX11_cast_17 : zd 1 cX11_cast 17 18 (.imul) := ⟨by decide +kernel, rfl⟩
theorem eX11_cast_18 : zd 1 cX11_cast 18 19 (.iconst 0) := ⟨by decide +kernel, rfl⟩
theorem eX11_cast_19 : zd 1 cX11_cast 19 20 (.iastore) := ⟨by decide +kernel, rfl⟩
theorem eX11_cast_20 : zd 1 cX11_cast 20 21 (.aload_n 0) := ⟨by decide +kernel, rfl⟩
theorem eX11_cast_21 : zd 3 cX11_cast 21 24 (.getfield 29) := ⟨by decide +kernel, rfl⟩
theorem eX11_cast_24 : zd 1 cX11_cast 24 25 (.iconst 4) := ⟨by decide +kernel, rfl⟩
theorem eX11_cast_25 : zd 1 cX11_cast 25 26 (.iload_n 1) := ⟨by decide +kernel, rfl⟩
theorem eX11_cast_26 : zd 1 cX11_cast 26 27 (.imul) := ⟨by decide +kernel, rfl⟩
theorem eX11_cast_27 : zd 1 cX11_cast 27 28 (.iconst 3) := ⟨by decide +kernel, rfl⟩
theorem eX11_cast_28 : zd 1 cX11_cast 28 29 (.iadd) := ⟨by decide +kernel, rfl⟩
theorem eX11_cast_29 : zd 1 cX11_cast 29 30 (.iaload) := ⟨by decide +kernel, rfl⟩
theorem eX11_cast_30 : zd 1 cX11_cast 30 31 (.ireturn) := ⟨by decide +kernel, rfl⟩
noncomputable def f_Mo_cast (v0 : tMo) (p1 : Int32) : Option (Int32 × (Nat → Int32)) := (Option.bind (f_Mo_isFast v0 p1) (fun (r1 : Int32) => (if r1 = 0 then (some ((-1000000001), (gMo_lines v0))) else (if inb (4 * p1) 24 = true then (if inb ((4 * p1) + 3) 24 = true then (some (((upd (gMo_lines v0) (ix (4 * p1)) 0) (ix ((4 * p1) + 3))), (upd (gMo_lines v0) (ix (4 * p1)) 0))) else none) else none))))
abbrev rm_Mo_cast : Room := { frames := 2, cells := 0, slots := 0, locals := 46 }
set_option maxHeartbeats 4000000 in
set_option maxRecDepth 100000 in
theorem c_Mo_cast (l : Launch) (g : zGl) (a0 : Nat → Nat) (o0 : Nat) (v0 : tMo) (p1 : Int32) (out : Int32 × (Nat → Int32)) (hf : f_Mo_cast v0 p1 = some out) : zMi l yX11_cast cX11_cast 2 rm_Mo_cast g [.ref (a0 o0), .int p1] (W_Mo g a0 o0 (gMo_ints v0) (gMo_told v0) (gMo_postX v0) (gMo_postStrong v0) (gMo_atRow v0) (gMo_heights v0) (gMo_ship v0) (gMo_lines v0) (gMo_text v0) (gMo_said v0) (gMo_readTold v0) (gMo_readX v0) (gMo_readStrong v0) (gMo_readRow v0) (gMo_parting v0) (gMo_wasShip v0) (gMo_wasLines v0) (gMo_worst v0) (gMo_logRow v0) (gMo_images v0) (gMo_isKept v0)) (out.1) (W_Mo g a0 o0 (gMo_ints v0) (gMo_told v0) (gMo_postX v0) (gMo_postStrong v0) (gMo_atRow v0) (gMo_heights v0) (gMo_ship v0) (out.2) (gMo_text v0) (gMo_said v0) (gMo_readTold v0) (gMo_readX v0) (gMo_readStrong v0) (gMo_readRow v0) (gMo_parting v0) (gMo_wasShip v0) (gMo_wasLines v0) (gMo_worst v0) (gMo_logRow v0) (gMo_images v0) (gMo_isKept v0)) := by
  refine zMi_of (lv := [(0, .ref (a0 o0)), (1, .int p1)]) (by decide) (Nat.le_of_ble_eq_true rfl) rfl (fun x hl hg C hret => ?_)
  subst hl; subst hg
  rw [f_Mo_cast] at hf
  refine r_aload_n C eX11_cast_0 0 rfl rfl ?_
  refine r_iload_n C eX11_cast_1 1 rfl rfl ?_
  obtain ⟨r1, hr1, hf⟩ := zbind hf
  refine r_V_z (ws' := W_Mo (z_g x) a0 o0 (gMo_ints v0) (gMo_told v0) (gMo_postX v0) (gMo_postStrong v0) (gMo_atRow v0) (gMo_heights v0) (gMo_ship v0) (gMo_lines v0) (gMo_text v0) (gMo_said v0) (gMo_readTold v0) (gMo_readX v0) (gMo_readStrong v0) (gMo_readRow v0) (gMo_parting v0) (gMo_wasShip v0) (gMo_wasLines v0) (gMo_worst v0) (gMo_logRow v0) (gMo_images v0) (gMo_isKept v0)) C (c_Mo_isFast (z_l x) (z_g x) a0 o0 v0 p1 r1 hr1) eX11_cast_2 MX11_243 ⟨0, 11, _, _, rfl, rfl, rfl⟩ [0, 1, 2, 3, 4, 5, 6, 7, 8, 9, 10, 11, 12, 13, 14, 15, 16, 17, 18, 19] rfl rfl rfl rfl [] rfl trivial 20 rfl rfl rfl rfl rfl rfl (fun zb2 => ?_)
  refine r_if_ne C eX11_cast_5 (fun c3 => ?_) (fun c3 => ?_)
  · rw [if_neg c3] at hf
    refine r_aload_n C eX11_cast_11 0 rfl rfl ?_
    refine r_get (v := .ref (a0 (o0 + 7))) C eX11_cast_12 FX11_29 0 rfl rfl ?_
    refine r_iconst C (v := 4) eX11_cast_15 (by decide) ?_
    refine r_iload_n C eX11_cast_16 1 rfl rfl ?_
    refine r_imul C eX11_cast_17 ?_
    refine r_iconst C (v := 0) eX11_cast_18 (by decide) ?_
    obtain ⟨hb4, hf⟩ := zchk hf
    refine r_iast (ws' := W_Mo (z_g x) a0 o0 (gMo_ints v0) (gMo_told v0) (gMo_postX v0) (gMo_postStrong v0) (gMo_atRow v0) (gMo_heights v0) (gMo_ship v0) (upd (gMo_lines v0) (ix (4 * p1)) 0) (gMo_text v0) (gMo_said v0) (gMo_readTold v0) (gMo_readX v0) (gMo_readStrong v0) (gMo_readRow v0) (gMo_parting v0) (gMo_wasShip v0) (gMo_wasLines v0) (gMo_worst v0) (gMo_logRow v0) (gMo_images v0) (gMo_isKept v0)) C eX11_cast_19 7 rfl (inb_in hb4) rfl ?_
    refine r_aload_n C eX11_cast_20 0 rfl rfl ?_
    refine r_get (v := .ref (a0 (o0 + 7))) C eX11_cast_21 FX11_29 0 rfl rfl ?_
    refine r_iconst C (v := 4) eX11_cast_24 (by decide) ?_
    refine r_iload_n C eX11_cast_25 1 rfl rfl ?_
    refine r_imul C eX11_cast_26 ?_
    refine r_iconst C (v := 3) eX11_cast_27 (by decide) ?_
    refine r_iadd C eX11_cast_28 ?_
    obtain ⟨hb5, hf⟩ := zchk hf
    refine r_iald C eX11_cast_29 7 rfl (inb_in hb5) ((upd (gMo_lines v0) (ix (4 * p1)) 0) (ix ((4 * p1) + 3))) rfl ?_
    obtain rfl := Option.some.inj (show some ((((upd (gMo_lines v0) (ix (4 * p1)) 0) (ix ((4 * p1) + 3))), (upd (gMo_lines v0) (ix (4 * p1)) 0)) : Int32 × (Nat → Int32)) = some _ from hf)
    exact hret _ _ _ eX11_cast_30
  · rw [if_pos c3] at hf
    refine r_ldc C (v := (-1000000001)) eX11_cast_8 q1276 ?_
    obtain rfl := Option.some.inj (show some (((-1000000001), (gMo_lines v0)) : Int32 × (Nat → Int32)) = some _ from hf)
    exact hret _ _ _ eX11_cast_10
theorem eX11_code_0 : zd 3 cX11_code 0 3 (.ldc2_w 119) := ⟨by decide +kernel, rfl⟩
theorem eX11_code_3 : zd 3 cX11_code 3 6 (.ldc2_w 119) := ⟨by decide +kernel, rfl⟩
theorem eX11_code_6 : zd 3 cX11_code 6 9 (.ldc2_w 119) := ⟨by decide +kernel, rfl⟩
theorem eX11_code_9 : zd 1 cX11_code 9 10 (.iload_n 0) := ⟨by decide +kernel, rfl⟩
theorem eX11_code_10 : zd 1 cX11_code 10 11 (.i2l) := ⟨by decide +kernel, rfl⟩
theorem eX11_code_11 : zd 3 cX11_code 11 14 (.ldc2_w 121) := ⟨by decide +kernel, rfl⟩
theorem eX11_code_14 : zd 1 cX11_code 14 15 (.lsub) := ⟨by decide +kernel, rfl⟩
theorem eX11_code_15 : zd 1 cX11_code 15 16 (.lmul) := ⟨by decide +kernel, rfl⟩
theorem eX11_code_16 : zd 1 cX11_code 16 17 (.iload_n 1) := ⟨by decide +kernel, rfl⟩
theorem eX11_code_17 : zd 1 cX11_code 17 18 (.i2l) := ⟨by decide +kernel, rfl⟩
theorem eX11_code_18 : zd 1 cX11_code 18 19 (.ladd) := ⟨by decide +kernel, rfl⟩
theorem eX11_code_19 : zd 3 cX11_code 19 22 (.ldc2_w 121) := ⟨by decide +kernel, rfl⟩
theorem eX11_code_22 : zd 1 cX11_code 22 23 (.lsub) := ⟨by decide +kernel, rfl⟩
theorem eX11_code_23 : zd 1 cX11_code 23 24 (.lmul) := ⟨by decide +kernel, rfl⟩
theorem eX11_code_24 : zd 1 cX11_code 24 25 (.iload_n 2) := ⟨by decide +kernel, rfl⟩
theorem eX11_code_25 : zd 1 cX11_code 25 26 (.i2l) := ⟨by decide +kernel, rfl⟩
theorem eX11_code_26 : zd 1 cX11_code 26 27 (.ladd) := ⟨by decide +kernel, rfl⟩
theorem eX11_code_27 : zd 3 cX11_code 27 30 (.ldc2_w 121) := ⟨by decide +kernel, rfl⟩
theorem eX11_code_30 : zd 1 cX11_code 30 31 (.lsub) := ⟨by decide +kernel, rfl⟩
theorem eX11_code_31 : zd 1 cX11_code 31 32 (.lmul) := ⟨by decide +kernel, rfl⟩
theorem eX11_code_32 : zd 1 cX11_code 32 33 (.iload_n 3) := ⟨by decide +kernel, rfl⟩
theorem eX11_code_33 : zd 1 cX11_code 33 34 (.i2l) := ⟨by decide +kernel, rfl⟩
theorem eX11_code_34 : zd 1 cX11_code 34 35 (.ladd) := ⟨by decide +kernel, rfl⟩
theorem eX11_code_35 : zd 3 cX11_code 35 38 (.ldc2_w 121) := ⟨by decide +kernel, rfl⟩
theorem eX11_code_38 : zd 1 cX11_code 38 39 (.lsub) := ⟨by decide +kernel, rfl⟩
theorem eX11_code_39 : zd 1 cX11_code 39 40 (.lreturn) := ⟨by decide +kernel, rfl⟩
noncomputable def f_Mo_code  (p1 : Int32) (p2 : Int32) (p3 : Int32) (p4 : Int32) : Int64 := (((27 * (((27 * (((27 * (p1.toInt64 - 96)) + p2.toInt64) - 96)) + p3.toInt64) - 96)) + p4.toInt64) - 96)
abbrev rm_Mo_code : Room := { frames := 0, cells := 0, slots := 0, locals := 0 }
set_option maxHeartbeats 4000000 in
set_option maxRecDepth 100000 in
theorem c_Mo_code (l : Launch) (g : zGl)  (p1 : Int32) (p2 : Int32) (p3 : Int32) (p4 : Int32) (out : Int64) (hf : f_Mo_code p1 p2 p3 p4 = out) : zMl l yX11_code cX11_code 4 rm_Mo_code g [.int p1, .int p2, .int p3, .int p4] ([]) out ([]) := by
  refine zMl_of (lv := [(0, .int p1), (1, .int p2), (2, .int p3), (3, .int p4)]) (by decide) (Nat.le_of_ble_eq_true rfl) rfl (fun x hl hg C hret => ?_)
  subst hl; subst hg
  rw [f_Mo_code] at hf
  refine r_ldc2 C (v := 27) eX11_code_0 q1206 ?_
  refine r_ldc2 C (v := 27) eX11_code_3 q1206 ?_
  refine r_ldc2 C (v := 27) eX11_code_6 q1206 ?_
  refine r_iload_n C eX11_code_9 0 rfl rfl ?_
  refine r_i2l C eX11_code_10 ?_
  refine r_ldc2 C (v := 96) eX11_code_11 q1207 ?_
  refine r_lsub C eX11_code_14 ?_
  refine r_lmul C eX11_code_15 ?_
  refine r_iload_n C eX11_code_16 1 rfl rfl ?_
  refine r_i2l C eX11_code_17 ?_
  refine r_ladd C eX11_code_18 ?_
  refine r_ldc2 C (v := 96) eX11_code_19 q1207 ?_
  refine r_lsub C eX11_code_22 ?_
  refine r_lmul C eX11_code_23 ?_
  refine r_iload_n C eX11_code_24 2 rfl rfl ?_
  refine r_i2l C eX11_code_25 ?_
  refine r_ladd C eX11_code_26 ?_
  refine r_ldc2 C (v := 96) eX11_code_27 q1207 ?_
  refine r_lsub C eX11_code_30 ?_
  refine r_lmul C eX11_code_31 ?_
  refine r_iload_n C eX11_code_32 3 rfl rfl ?_
  refine r_i2l C eX11_code_33 ?_
  refine r_ladd C eX11_code_34 ?_
  refine r_ldc2 C (v := 96) eX11_code_35 q1207 ?_
  refine r_lsub C eX11_code_38 ?_
  subst hf
  exact hret _ _ _ eX11_code_39
theorem eX11_longer_0 : zd 3 cX11_longer 0 3 (.ldc2_w 119) := ⟨by decide +kernel, rfl⟩
theorem eX11_longer_3 : zd 1 cX11_longer 3 4 (.lload_n 0) := ⟨by decide +kernel, rfl⟩
theorem eX11_longer_4 : zd 1 cX11_longer 4 5 (.lmul) := ⟨by decide +kernel, rfl⟩
theorem eX11_longer_5 : zd 1 cX11_longer 5 6 (.iload_n 2) := ⟨by decide +kernel, rfl⟩
theorem eX11_longer_6 : zd 1 cX11_longer 6 7 (.i2l) := ⟨by decide +kernel, rfl⟩
theorem eX11_longer_7 : zd 1 cX11_longer 7 8 (.ladd) := ⟨by decide +kernel, rfl⟩
theorem eX11_longer_8 : zd 3 cX11_longer 8 11 (.ldc2_w 121) := ⟨by decide +kernel, rfl⟩
theorem eX11_longer_11 : zd 1 cX11_longer 11 12 (.lsub) := ⟨by decide +kernel, rfl⟩
theorem eX11_longer_12 : zd 1 cX11_longer 12 13 (.lreturn) := ⟨by decide +kernel, rfl⟩
noncomputable def f_Mo_longer  (p1 : Int64) (p2 : Int32) : Int64 := (((27 * p1) + p2.toInt64) - 96)
abbrev rm_Mo_longer : Room := { frames := 0, cells := 0, slots := 0, locals := 0 }
set_option maxHeartbeats 4000000 in
set_option maxRecDepth 100000 in
theorem c_Mo_longer (l : Launch) (g : zGl)  (p1 : Int64) (p2 : Int32) (out : Int64) (hf : f_Mo_longer p1 p2 = out) : zMl l yX11_longer cX11_longer 3 rm_Mo_longer g [.long p1, .int p2] ([]) out ([]) := by
  refine zMl_of (lv := [(0, .long p1), (2, .int p2)]) (by decide) (Nat.le_of_ble_eq_true rfl) rfl (fun x hl hg C hret => ?_)
  subst hl; subst hg
  rw [f_Mo_longer] at hf
  refine r_ldc2 C (v := 27) eX11_longer_0 q1206 ?_
  refine r_lload_n C eX11_longer_3 0 rfl rfl ?_
  refine r_lmul C eX11_longer_4 ?_
  refine r_iload_n C eX11_longer_5 1 rfl rfl ?_
  refine r_i2l C eX11_longer_6 ?_
  refine r_ladd C eX11_longer_7 ?_
  refine r_ldc2 C (v := 96) eX11_longer_8 q1207 ?_
  refine r_lsub C eX11_longer_11 ?_
  subst hf
  exact hret _ _ _ eX11_longer_12
theorem eX11_clauseOf_0 : zd 1 cX11_clauseOf 0 1 (.aload_n 0) := ⟨by decide +kernel, rfl⟩
theorem eX11_clauseOf_1 : zd 3 cX11_clauseOf 1 4 (.getfield 104) := ⟨by decide +kernel, rfl⟩
theorem eX11_clauseOf_4 : zd 3 cX11_clauseOf 4 7 (.ldc2_w 144) := ⟨by decide +kernel, rfl⟩
theorem eX11_clauseOf_7 : zd 1 cX11_clauseOf 7 8 (.lcmp) := ⟨by decide +kernel, rfl⟩
theorem eX11_clauseOf_8 : zdi cX11_clauseOf 8 11 15 (.ifCond .ne) := ⟨7, by decide +kernel, rfl, by decide⟩
theorem eX11_clauseOf_11 : zd 1 cX11_clauseOf 11 12 (.iconst 0) := ⟨by decide +kernel, rfl⟩
theorem eX11_clauseOf_12 : zdi cX11_clauseOf 12 15 91 (.goto) := ⟨79, by decide +kernel, rfl, by decide⟩
theorem eX11_clauseOf_15 : zd 1 cX11_clauseOf 15 16 (.aload_n 0) := ⟨by decide +kernel, rfl⟩
theorem eX11_clauseOf_16 : zd 3 cX11_clauseOf 16 19 (.getfield 104) := ⟨by decide +kernel, rfl⟩
theorem eX11_clauseOf_19 : zd 2 cX11_clauseOf 19 21 (.bipush 112) := ⟨by decide +kernel, rfl⟩
theorem eX11_clauseOf_21 : zd 2 cX11_clauseOf 21 23 (.bipush 111) := ⟨by decide +kernel, rfl⟩
theorem eX11_clauseOf_23 : zd 2 cX11_clauseOf 23 25 (.bipush 115) := ⟨by decide +kernel, rfl⟩
theorem eX11_clauseOf_25 : zd 2 cX11_clauseOf 25 27 (.bipush 116) := ⟨by decide +kernel, rfl⟩
theorem eX11_clauseOf_27 : zd 3 cX11_clauseOf 27 30 (.invokestatic 146) := ⟨by decide +kernel, rfl⟩
theorem eX11_clauseOf_30 : zd 1 cX11_clauseOf 30 31 (.lcmp) := ⟨by decide +kernel, rfl⟩
theorem eX11_clauseOf_31 : zdi cX11_clauseOf 31 34 38 (.ifCond .ne) := ⟨7, by decide +kernel, rfl, by decide⟩
theorem eX11_clauseOf_34 : zd 1 cX11_clauseOf 34 35 (.iconst 1) := ⟨by decide +kernel, rfl⟩
theorem eX11_clauseOf_35 : zdi cX11_clauseOf 35 38 91 (.goto) := ⟨56, by decide +kernel, rfl, by decide⟩
theorem eX11_clauseOf_38 : zd 1 cX11_clauseOf 38 39 (.aload_n 0) := ⟨by decide +kernel, rfl⟩
theorem eX11_clauseOf_39 : zd 3 cX11_clauseOf 39 42 (.getfield 104) := ⟨by decide +kernel, rfl⟩
theorem eX11_clauseOf_42 : zd 2 cX11_clauseOf 42 44 (.bipush 115) := ⟨by decide +kernel, rfl⟩
theorem eX11_clauseOf_44 : zd 2 cX11_clauseOf 44 46 (.bipush 104) := ⟨by decide +kernel, rfl⟩
theorem eX11_clauseOf_46 : zd 2 cX11_clauseOf 46 48 (.bipush 105) := ⟨by decide +kernel, rfl⟩
theorem eX11_clauseOf_48 : zd 2 cX11_clauseOf 48 50 (.bipush 112) := ⟨by decide +kernel, rfl⟩
theorem eX11_clauseOf_50 : zd 3 cX11_clauseOf 50 53 (.invokestatic 146) := ⟨by decide +kernel, rfl⟩
theorem eX11_clauseOf_53 : zd 1 cX11_clauseOf 53 54 (.lcmp) := ⟨by decide +kernel, rfl⟩
theorem eX11_clauseOf_54 : zdi cX11_clauseOf 54 57 61 (.ifCond .ne) := ⟨7, by decide +kernel, rfl, by decide⟩
theorem eX11_clauseOf_57 : zd 1 cX11_clauseOf 57 58 (.iconst 2) := ⟨by decide +kernel, rfl⟩
theorem eX11_clauseOf_58 : zdi cX11_clauseOf 58 61 91 (.goto) := ⟨33, by decide +kernel, rfl, by decide⟩
theorem eX11_clauseOf_61 : zd 1 cX11_clauseOf 61 62 (.aload_n 0) := ⟨by decide +kernel, rfl⟩
theorem eX11_clauseOf_62 : zd 3 cX11_clauseOf 62 65 (.getfield 104) := ⟨by decide +kernel, rfl⟩
theorem eX11_clauseOf_65 : zd 2 cX11_clauseOf 65 67 (.bipush 115) := ⟨by decide +kernel, rfl⟩
theorem eX11_clauseOf_67 : zd 2 cX11_clauseOf 67 69 (.bipush 99) := ⟨by decide +kernel, rfl⟩
theorem eX11_clauseOf_69 : zd 2 cX11_clauseOf 69 71 (.bipush 114) := ⟨by decide +kernel, rfl⟩
theorem eX11_clauseOf_71 : zd 2 cX11_clauseOf 71 73 (.bipush 101) := ⟨by decide +kernel, rfl⟩
theorem eX11_clauseOf_73 : zd 3 cX11_clauseOf 73 76 (.invokestatic 146) := ⟨by decide +kernel, rfl⟩
theorem eX11_clauseOf_76 : zd 2 cX11_clauseOf 76 78 (.bipush 119) := ⟨by decide +kernel, rfl⟩
theorem eX11_clauseOf_78 : zd 3 cX11_clauseOf 78 81 (.invokestatic 150) := ⟨by decide +kernel, rfl⟩
theorem eX11_clauseOf_81 : zd 1 cX11_clauseOf 81 82 (.lcmp) := ⟨by decide +kernel, rfl⟩
theorem eX11_clauseOf_82 : zdi cX11_clauseOf 82 85 90 (.ifCond .ne) := ⟨8, by decide +kernel, rfl, by decide⟩
theorem eX11_clauseOf_85 : zd 2 cX11_clauseOf 85 87 (.bipush 9) := ⟨by decide +kernel, rfl⟩
theorem eX11_clauseOf_87 : zdi cX11_clauseOf 87 90 91 (.goto) := ⟨4, by decide +kernel, rfl, by decide⟩
theorem eX11_clauseOf_90 : zd 1 cX11_clauseOf 90 91 (.iconst (-1)) := ⟨by decide +kernel, rfl⟩
theorem eX11_clauseOf_91 : zd 1 cX11_clauseOf 91 92 (.istore_n 1) := ⟨by decide +kernel, rfl⟩
theorem eX11_clauseOf_92 : zd 1 cX11_clauseOf 92 93 (.aload_n 0) := ⟨by decide +kernel, rfl⟩
theorem eX11_clauseOf_93 : zd 3 cX11_clauseOf 93 96 (.getfield 104) := ⟨by decide +kernel, rfl⟩
theorem eX11_clauseOf_96 : zd 2 cX11_clauseOf 96 98 (.bipush 119) := ⟨by decide +kernel, rfl⟩
theorem eX11_clauseOf_98 : zd 2 cX11_clauseOf 98 100 (.bipush 104) := ⟨by decide +kernel, rfl⟩
theorem eX11_clauseOf_100 : zd 2 cX11_clauseOf 100 102 (.bipush 101) := ⟨by decide +kernel, rfl⟩
theorem eX11_clauseOf_102 : zd 2 cX11_clauseOf 102 104 (.bipush 101) := ⟨by decide +kernel, rfl⟩
theorem eX11_clauseOf_104 : zd 3 cX11_clauseOf 104 107 (.invokestatic 146) := ⟨by decide +kernel, rfl⟩
theorem eX11_clauseOf_107 : zd 2 cX11_clauseOf 107 109 (.bipush 108) := ⟨by decide +kernel, rfl⟩
theorem eX11_clauseOf_109 : zd 3 cX11_clauseOf 109 112 (.invokestatic 150) := ⟨by decide +kernel, rfl⟩
theorem eX11_clauseOf_112 : zd 1 cX11_clauseOf 112 113 (.lcmp) := ⟨by decide +kernel, rfl⟩
theorem eX11_clauseOf_113 : zdi cX11_clauseOf 113 116 120 (.ifCond .ne) := ⟨7, by decide +kernel, rfl, by decide⟩
theorem eX11_clauseOf_116 : zd 1 cX11_clauseOf 116 117 (.iconst 4) := ⟨by decide +kernel, rfl⟩
theorem eX11_clauseOf_117 : zdi cX11_clauseOf 117 120 226 (.goto) := ⟨109, by decide +kernel, rfl, by decide⟩
theorem eX11_clauseOf_120 : zd 1 cX11_clauseOf 120 121 (.aload_n 0) := ⟨by decide +kernel, rfl⟩
theorem eX11_clauseOf_121 : zd 3 cX11_clauseOf 121 124 (.getfield 104) := ⟨by decide +kernel, rfl⟩
theorem eX11_clauseOf_124 : zd 2 cX11_clauseOf 124 126 (.bipush 115) := ⟨by decide +kernel, rfl⟩
theorem eX11_clauseOf_126 : zd 2 cX11_clauseOf 126 128 (.bipush 108) := ⟨by decide +kernel, rfl⟩
theorem eX11_clauseOf_128 : zd 2 cX11_clauseOf 128 130 (.bipush 111) := ⟨by decide +kernel, rfl⟩
theorem eX11_clauseOf_130 : zd 2 cX11_clauseOf 130 132 (.bipush 119) := ⟨by decide +kernel, rfl⟩
theorem eX11_clauseOf_132 : zd 3 cX11_clauseOf 132 135 (.invokestatic 146) := ⟨by decide +kernel, rfl⟩
theorem eX11_clauseOf_135 : zd 1 cX11_clauseOf 135 136 (.lcmp) := ⟨by decide +kernel, rfl⟩
theorem eX11_clauseOf_136 : zdi cX11_clauseOf 136 139 143 (.ifCond .ne) := ⟨7, by decide +kernel, rfl, by decide⟩
theorem eX11_clauseOf_139 : zd 1 cX11_clauseOf 139 140 (.iconst 5) := ⟨by decide +kernel, rfl⟩
theorem eX11_clauseOf_140 : zdi cX11_clauseOf 140 143 226 (.goto) := ⟨86, by decide +kernel, rfl, by decide⟩
theorem eX11_clauseOf_143 : zd 1 cX11_clauseOf 143 144 (.aload_n 0) := ⟨by decide +kernel, rfl⟩
theorem eX11_clauseOf_144 : zd 3 cX11_clauseOf 144 147 (.getfield 104) := ⟨by decide +kernel, rfl⟩
theorem eX11_clauseOf_147 : zd 2 cX11_clauseOf 147 149 (.bipush 119) := ⟨by decide +kernel, rfl⟩
theorem eX11_clauseOf_149 : zd 2 cX11_clauseOf 149 151 (.bipush 105) := ⟨by decide +kernel, rfl⟩
theorem eX11_clauseOf_151 : zd 2 cX11_clauseOf 151 153 (.bipush 110) := ⟨by decide +kernel, rfl⟩
theorem eX11_clauseOf_153 : zd 2 cX11_clauseOf 153 155 (.bipush 100) := ⟨by decide +kernel, rfl⟩
theorem eX11_clauseOf_155 : zd 3 cX11_clauseOf 155 158 (.invokestatic 146) := ⟨by decide +kernel, rfl⟩
theorem eX11_clauseOf_158 : zd 1 cX11_clauseOf 158 159 (.lcmp) := ⟨by decide +kernel, rfl⟩
theorem eX11_clauseOf_159 : zdi cX11_clauseOf 159 162 167 (.ifCond .ne) := ⟨8, by decide +kernel, rfl, by decide⟩
theorem eX11_clauseOf_162 : zd 2 cX11_clauseOf 162 164 (.bipush 6) := ⟨by decide +kernel, rfl⟩
theorem eX11_clauseOf_164 : zdi cX11_clauseOf 164 167 226 (.goto) := ⟨62, by decide +kernel, rfl, by decide⟩
theorem eX11_clauseOf_167 : zd 1 cX11_clauseOf 167 168 (.aload_n 0) := ⟨by decide +kernel, rfl⟩
theorem eX11_clauseOf_168 : zd 3 cX11_clauseOf 168 171 (.getfield 104) := ⟨by decide +kernel, rfl⟩
theorem eX11_clauseOf_171 : zd 2 cX11_clauseOf 171 173 (.bipush 103) := ⟨by decide +kernel, rfl⟩
theorem eX11_clauseOf_173 : zd 2 cX11_clauseOf 173 175 (.bipush 105) := ⟨by decide +kernel, rfl⟩
theorem eX11_clauseOf_175 : zd 2 cX11_clauseOf 175 177 (.bipush 118) := ⟨by decide +kernel, rfl⟩
theorem eX11_clauseOf_177 : zd 2 cX11_clauseOf 177 179 (.bipush 101) := ⟨by decide +kernel, rfl⟩
theorem eX11_clauseOf_179 : zd 3 cX11_clauseOf 179 182 (.invokestatic 146) := ⟨by decide +kernel, rfl⟩
theorem eX11_clauseOf_182 : zd 1 cX11_clauseOf 182 183 (.lcmp) := ⟨by decide +kernel, rfl⟩
theorem eX11_clauseOf_183 : zdi cX11_clauseOf 183 186 191 (.ifCond .ne) := ⟨8, by decide +kernel, rfl, by decide⟩
theorem eX11_clauseOf_186 : zd 2 cX11_clauseOf 186 188 (.bipush 7) := ⟨by decide +kernel, rfl⟩
theorem eX11_clauseOf_188 : zdi cX11_clauseOf 188 191 226 (.goto) := ⟨38, by decide +kernel, rfl, by decide⟩
theorem eX11_clauseOf_191 : zd 1 cX11_clauseOf 191 192 (.aload_n 0) := ⟨by decide +kernel, rfl⟩
theorem eX11_clauseOf_192 : zd 3 cX11_clauseOf 192 195 (.getfield 104) := ⟨by decide +kernel, rfl⟩
theorem eX11_clauseOf_195 : zd 2 cX11_clauseOf 195 197 (.bipush 102) := ⟨by decide +kernel, rfl⟩
theorem eX11_clauseOf_197 : zd 2 cX11_clauseOf 197 199 (.bipush 101) := ⟨by decide +kernel, rfl⟩
theorem eX11_clauseOf_199 : zd 2 cX11_clauseOf 199 201 (.bipush 110) := ⟨by decide +kernel, rfl⟩
theorem eX11_clauseOf_201 : zd 2 cX11_clauseOf 201 203 (.bipush 100) := ⟨by decide +kernel, rfl⟩
theorem eX11_clauseOf_203 : zd 3 cX11_clauseOf 203 206 (.invokestatic 146) := ⟨by decide +kernel, rfl⟩
theorem eX11_clauseOf_206 : zd 2 cX11_clauseOf 206 208 (.bipush 101) := ⟨by decide +kernel, rfl⟩
theorem eX11_clauseOf_208 : zd 3 cX11_clauseOf 208 211 (.invokestatic 150) := ⟨by decide +kernel, rfl⟩
theorem eX11_clauseOf_211 : zd 2 cX11_clauseOf 211 213 (.bipush 114) := ⟨by decide +kernel, rfl⟩
theorem eX11_clauseOf_213 : zd 3 cX11_clauseOf 213 216 (.invokestatic 150) := ⟨by decide +kernel, rfl⟩
theorem eX11_clauseOf_216 : zd 1 cX11_clauseOf 216 217 (.lcmp) := ⟨by decide +kernel, rfl⟩
theorem eX11_clauseOf_217 : zdi cX11_clauseOf 217 220 225 (.ifCond .ne) := ⟨8, by decide +kernel, rfl, by decide⟩
theorem eX11_clauseOf_220 : zd 2 cX11_clauseOf 220 222 (.bipush 8) := ⟨by decide +kernel, rfl⟩
theorem eX11_clauseOf_222 : zdi cX11_clauseOf 222 225 226 (.goto) := ⟨4, by decide +kernel, rfl, by decide⟩
theorem eX11_clauseOf_225 : zd 1 cX11_clauseOf 225 226 (.iconst (-1)) := ⟨by decide +kernel, rfl⟩
theorem eX11_clauseOf_226 : zd 1 cX11_clauseOf 226 227 (.istore_n 2) := ⟨by decide +kernel, rfl⟩
theorem eX11_clauseOf_227 : zd 1 cX11_clauseOf 227 228 (.iload_n 1) := ⟨by decide +kernel, rfl⟩
theorem eX11_clauseOf_228 : zdi cX11_clauseOf 228 231 235 (.ifCond .lt) := ⟨7, by decide +kernel, rfl, by decide⟩
theorem eX11_clauseOf_231 : zd 1 cX11_clauseOf 231 232 (.iload_n 1) := ⟨by decide +kernel, rfl⟩
theorem eX11_clauseOf_232 : zdi cX11_clauseOf 232 235 236 (.goto) := ⟨4, by decide +kernel, rfl, by decide⟩
theorem eX11_clauseOf_235 : zd 1 cX11_clauseOf 235 236 (.iload_n 2) := ⟨by decide +kernel, rfl⟩
theorem eX11_clauseOf_236 : zd 1 cX11_clauseOf 236 237 (.ireturn) := ⟨by decide +kernel, rfl⟩
theorem FX11_104 : zlF RX11 104 11 14 := ⟨(RX11, TX11, 34), rfl, by decide, q1085, zin11⟩
theorem MX11_146 : zlS RX11 146 yX11_code cX11_code 4 ((Option.some FieldType.long)) 4 := ⟨q1213, q1214, q12, q1215, by decide, by decide, by decide +kernel⟩
theorem MX11_150 : zlS RX11 150 yX11_longer cX11_longer 3 ((Option.some FieldType.long)) 2 := ⟨q1216, q1217, q12, q1218, by decide, by decide, by decide +kernel⟩
noncomputable def f_Mo_clauseOf (v0 : tMo)  : Int32 := (zlet (if (gMo_said v0) = 5146 then 0 else (if (gMo_said v0) = (f_Mo_code 112 111 115 116) then 1 else (if (gMo_said v0) = (f_Mo_code 115 104 105 112) then 2 else (if (gMo_said v0) = (f_Mo_longer (f_Mo_code 115 99 114 101) 119) then 9 else (-1))))) (fun (w1 : Int32) => (zlet (if (gMo_said v0) = (f_Mo_longer (f_Mo_code 119 104 101 101) 108) then 4 else (if (gMo_said v0) = (f_Mo_code 115 108 111 119) then 5 else (if (gMo_said v0) = (f_Mo_code 119 105 110 100) then 6 else (if (gMo_said v0) = (f_Mo_code 103 105 118 101) then 7 else (if (gMo_said v0) = (f_Mo_longer (f_Mo_longer (f_Mo_code 102 101 110 100) 101) 114) then 8 else (-1)))))) (fun (w7 : Int32) => (if w1 < 0 then w7 else w1)))))
abbrev rm_Mo_clauseOf : Room := { frames := 1, cells := 0, slots := 0, locals := 23 }
set_option maxHeartbeats 4000000 in
set_option maxRecDepth 100000 in
theorem c_Mo_clauseOf (l : Launch) (g : zGl) (a0 : Nat → Nat) (o0 : Nat) (v0 : tMo)  (out : Int32) (hf : f_Mo_clauseOf v0 = out) : zMi l yX11_clauseOf cX11_clauseOf 3 rm_Mo_clauseOf g [.ref (a0 o0)] (W_Mo g a0 o0 (gMo_ints v0) (gMo_told v0) (gMo_postX v0) (gMo_postStrong v0) (gMo_atRow v0) (gMo_heights v0) (gMo_ship v0) (gMo_lines v0) (gMo_text v0) (gMo_said v0) (gMo_readTold v0) (gMo_readX v0) (gMo_readStrong v0) (gMo_readRow v0) (gMo_parting v0) (gMo_wasShip v0) (gMo_wasLines v0) (gMo_worst v0) (gMo_logRow v0) (gMo_images v0) (gMo_isKept v0)) out (W_Mo g a0 o0 (gMo_ints v0) (gMo_told v0) (gMo_postX v0) (gMo_postStrong v0) (gMo_atRow v0) (gMo_heights v0) (gMo_ship v0) (gMo_lines v0) (gMo_text v0) (gMo_said v0) (gMo_readTold v0) (gMo_readX v0) (gMo_readStrong v0) (gMo_readRow v0) (gMo_parting v0) (gMo_wasShip v0) (gMo_wasLines v0) (gMo_worst v0) (gMo_logRow v0) (gMo_images v0) (gMo_isKept v0)) := by
  refine zMi_of (lv := [(0, .ref (a0 o0))]) (by decide) (Nat.le_of_ble_eq_true rfl) rfl (fun x hl hg C hret => ?_)
  subst hl; subst hg
  rw [f_Mo_clauseOf] at hf
  refine r_aload_n C eX11_clauseOf_0 0 rfl rfl ?_
  refine r_get (v := .long (gMo_said v0)) C eX11_clauseOf_1 FX11_104 0 rfl rfl ?_
  refine r_ldc2 C (v := 5146) eX11_clauseOf_4 q1212 ?_
  obtain ⟨w1, hw1, hf⟩ := zlet_of hf
  have J2 : vV x 3 0 0 (W_Mo (z_g x) a0 o0 (gMo_ints v0) (gMo_told v0) (gMo_postX v0) (gMo_postStrong v0) (gMo_atRow v0) (gMo_heights v0) (gMo_ship v0) (gMo_lines v0) (gMo_text v0) (gMo_said v0) (gMo_readTold v0) (gMo_readX v0) (gMo_readStrong v0) (gMo_readRow v0) (gMo_parting v0) (gMo_wasShip v0) (gMo_wasLines v0) (gMo_worst v0) (gMo_logRow v0) (gMo_images v0) (gMo_isKept v0)) 91 [(0, .ref (a0 o0))] [.int w1] := by
    refine r_istore_n C [(1, .int w1), (0, .ref (a0 o0))] eX11_clauseOf_91 rfl (by decide) rfl ?_
    refine r_aload_n C eX11_clauseOf_92 1 rfl rfl ?_
    refine r_get (v := .long (gMo_said v0)) C eX11_clauseOf_93 FX11_104 0 rfl rfl ?_
    refine r_bipush C (v := 119) eX11_clauseOf_96 (by decide) ?_
    refine r_bipush C (v := 104) eX11_clauseOf_98 (by decide) ?_
    refine r_bipush C (v := 101) eX11_clauseOf_100 (by decide) ?_
    refine r_bipush C (v := 101) eX11_clauseOf_102 (by decide) ?_
    refine r_S_l (ws' := W_Mo (z_g x) a0 o0 (gMo_ints v0) (gMo_told v0) (gMo_postX v0) (gMo_postStrong v0) (gMo_atRow v0) (gMo_heights v0) (gMo_ship v0) (gMo_lines v0) (gMo_text v0) (gMo_said v0) (gMo_readTold v0) (gMo_readX v0) (gMo_readStrong v0) (gMo_readRow v0) (gMo_parting v0) (gMo_wasShip v0) (gMo_wasLines v0) (gMo_worst v0) (gMo_logRow v0) (gMo_images v0) (gMo_isKept v0)) C (c_Mo_code (z_l x) (z_g x)  119 104 101 101 _ rfl) eX11_clauseOf_104 MX11_146 [] rfl rfl rfl rfl [0, 1, 2, 3, 4, 5, 6, 7, 8, 9, 10, 11, 12, 13, 14, 15, 16, 17, 18, 19] rfl ⟨rfl, rfl, rfl, rfl, rfl, rfl, rfl, rfl, rfl, rfl, rfl, rfl, rfl, rfl, rfl, rfl, rfl, rfl, rfl, rfl, trivial⟩ 20 rfl rfl rfl rfl rfl rfl ?_
    refine r_bipush C (v := 108) eX11_clauseOf_107 (by decide) ?_
    refine r_S_l (ws' := W_Mo (z_g x) a0 o0 (gMo_ints v0) (gMo_told v0) (gMo_postX v0) (gMo_postStrong v0) (gMo_atRow v0) (gMo_heights v0) (gMo_ship v0) (gMo_lines v0) (gMo_text v0) (gMo_said v0) (gMo_readTold v0) (gMo_readX v0) (gMo_readStrong v0) (gMo_readRow v0) (gMo_parting v0) (gMo_wasShip v0) (gMo_wasLines v0) (gMo_worst v0) (gMo_logRow v0) (gMo_images v0) (gMo_isKept v0)) C (c_Mo_longer (z_l x) (z_g x)  (f_Mo_code 119 104 101 101) 108 _ rfl) eX11_clauseOf_109 MX11_150 [] rfl rfl rfl rfl [0, 1, 2, 3, 4, 5, 6, 7, 8, 9, 10, 11, 12, 13, 14, 15, 16, 17, 18, 19] rfl ⟨rfl, rfl, rfl, rfl, rfl, rfl, rfl, rfl, rfl, rfl, rfl, rfl, rfl, rfl, rfl, rfl, rfl, rfl, rfl, rfl, trivial⟩ 20 rfl rfl rfl rfl rfl rfl ?_
    obtain ⟨w7, hw7, hf⟩ := zlet_of hf
    have J8 : vV x 3 0 0 (W_Mo (z_g x) a0 o0 (gMo_ints v0) (gMo_told v0) (gMo_postX v0) (gMo_postStrong v0) (gMo_atRow v0) (gMo_heights v0) (gMo_ship v0) (gMo_lines v0) (gMo_text v0) (gMo_said v0) (gMo_readTold v0) (gMo_readX v0) (gMo_readStrong v0) (gMo_readRow v0) (gMo_parting v0) (gMo_wasShip v0) (gMo_wasLines v0) (gMo_worst v0) (gMo_logRow v0) (gMo_images v0) (gMo_isKept v0)) 226 [(1, .int w1)] [.int w7] := by
      refine r_istore_n C [(2, .int w7), (1, .int w1)] eX11_clauseOf_226 rfl (by decide) rfl ?_
      refine r_iload_n C eX11_clauseOf_227 1 rfl rfl ?_
      refine r_if_lt C eX11_clauseOf_228 (fun c14 => ?_) (fun c14 => ?_)
      · rw [if_pos c14] at hf
        refine r_iload_n C eX11_clauseOf_235 0 rfl rfl ?_
        subst hf
        exact hret _ _ _ eX11_clauseOf_236
      · rw [if_neg c14] at hf
        refine r_iload_n C eX11_clauseOf_231 1 rfl rfl ?_
        refine r_goto C eX11_clauseOf_232 ?_
        subst hf
        exact hret _ _ _ eX11_clauseOf_236
    refine r_lcmp_ne C eX11_clauseOf_112 eX11_clauseOf_113 (fun c9 => ?_) (fun c9 => ?_)
    · rw [if_neg c9] at hw7
      refine r_aload_n C eX11_clauseOf_120 1 rfl rfl ?_
      refine r_get (v := .long (gMo_said v0)) C eX11_clauseOf_121 FX11_104 0 rfl rfl ?_
      refine r_bipush C (v := 115) eX11_clauseOf_124 (by decide) ?_
      refine r_bipush C (v := 108) eX11_clauseOf_126 (by decide) ?_
      refine r_bipush C (v := 111) eX11_clauseOf_128 (by decide) ?_
      refine r_bipush C (v := 119) eX11_clauseOf_130 (by decide) ?_
      refine r_S_l (ws' := W_Mo (z_g x) a0 o0 (gMo_ints v0) (gMo_told v0) (gMo_postX v0) (gMo_postStrong v0) (gMo_atRow v0) (gMo_heights v0) (gMo_ship v0) (gMo_lines v0) (gMo_text v0) (gMo_said v0) (gMo_readTold v0) (gMo_readX v0) (gMo_readStrong v0) (gMo_readRow v0) (gMo_parting v0) (gMo_wasShip v0) (gMo_wasLines v0) (gMo_worst v0) (gMo_logRow v0) (gMo_images v0) (gMo_isKept v0)) C (c_Mo_code (z_l x) (z_g x)  115 108 111 119 _ rfl) eX11_clauseOf_132 MX11_146 [] rfl rfl rfl rfl [0, 1, 2, 3, 4, 5, 6, 7, 8, 9, 10, 11, 12, 13, 14, 15, 16, 17, 18, 19] rfl ⟨rfl, rfl, rfl, rfl, rfl, rfl, rfl, rfl, rfl, rfl, rfl, rfl, rfl, rfl, rfl, rfl, rfl, rfl, rfl, rfl, trivial⟩ 20 rfl rfl rfl rfl rfl rfl ?_
      refine r_lcmp_ne C eX11_clauseOf_135 eX11_clauseOf_136 (fun c10 => ?_) (fun c10 => ?_)
      · rw [if_neg c10] at hw7
        refine r_aload_n C eX11_clauseOf_143 1 rfl rfl ?_
        refine r_get (v := .long (gMo_said v0)) C eX11_clauseOf_144 FX11_104 0 rfl rfl ?_
        refine r_bipush C (v := 119) eX11_clauseOf_147 (by decide) ?_
        refine r_bipush C (v := 105) eX11_clauseOf_149 (by decide) ?_
        refine r_bipush C (v := 110) eX11_clauseOf_151 (by decide) ?_
        refine r_bipush C (v := 100) eX11_clauseOf_153 (by decide) ?_
        refine r_S_l (ws' := W_Mo (z_g x) a0 o0 (gMo_ints v0) (gMo_told v0) (gMo_postX v0) (gMo_postStrong v0) (gMo_atRow v0) (gMo_heights v0) (gMo_ship v0) (gMo_lines v0) (gMo_text v0) (gMo_said v0) (gMo_readTold v0) (gMo_readX v0) (gMo_readStrong v0) (gMo_readRow v0) (gMo_parting v0) (gMo_wasShip v0) (gMo_wasLines v0) (gMo_worst v0) (gMo_logRow v0) (gMo_images v0) (gMo_isKept v0)) C (c_Mo_code (z_l x) (z_g x)  119 105 110 100 _ rfl) eX11_clauseOf_155 MX11_146 [] rfl rfl rfl rfl [0, 1, 2, 3, 4, 5, 6, 7, 8, 9, 10, 11, 12, 13, 14, 15, 16, 17, 18, 19] rfl ⟨rfl, rfl, rfl, rfl, rfl, rfl, rfl, rfl, rfl, rfl, rfl, rfl, rfl, rfl, rfl, rfl, rfl, rfl, rfl, rfl, trivial⟩ 20 rfl rfl rfl rfl rfl rfl ?_
        refine r_lcmp_ne C eX11_clauseOf_158 eX11_clauseOf_159 (fun c11 => ?_) (fun c11 => ?_)
        · rw [if_neg c11] at hw7
          refine r_aload_n C eX11_clauseOf_167 1 rfl rfl ?_
          refine r_get (v := .long (gMo_said v0)) C eX11_clauseOf_168 FX11_104 0 rfl rfl ?_
          refine r_bipush C (v := 103) eX11_clauseOf_171 (by decide) ?_
          refine r_bipush C (v := 105) eX11_clauseOf_173 (by decide) ?_
          refine r_bipush C (v := 118) eX11_clauseOf_175 (by decide) ?_
          refine r_bipush C (v := 101) eX11_clauseOf_177 (by decide) ?_
          refine r_S_l (ws' := W_Mo (z_g x) a0 o0 (gMo_ints v0) (gMo_told v0) (gMo_postX v0) (gMo_postStrong v0) (gMo_atRow v0) (gMo_heights v0) (gMo_ship v0) (gMo_lines v0) (gMo_text v0) (gMo_said v0) (gMo_readTold v0) (gMo_readX v0) (gMo_readStrong v0) (gMo_readRow v0) (gMo_parting v0) (gMo_wasShip v0) (gMo_wasLines v0) (gMo_worst v0) (gMo_logRow v0) (gMo_images v0) (gMo_isKept v0)) C (c_Mo_code (z_l x) (z_g x)  103 105 118 101 _ rfl) eX11_clauseOf_179 MX11_146 [] rfl rfl rfl rfl [0, 1, 2, 3, 4, 5, 6, 7, 8, 9, 10, 11, 12, 13, 14, 15, 16, 17, 18, 19] rfl ⟨rfl, rfl, rfl, rfl, rfl, rfl, rfl, rfl, rfl, rfl, rfl, rfl, rfl, rfl, rfl, rfl, rfl, rfl, rfl, rfl, trivial⟩ 20 rfl rfl rfl rfl rfl rfl ?_
          refine r_lcmp_ne C eX11_clauseOf_182 eX11_clauseOf_183 (fun c12 => ?_) (fun c12 => ?_)
          · rw [if_neg c12] at hw7
            refine r_aload_n C eX11_clauseOf_191 1 rfl rfl ?_
            refine r_get (v := .long (gMo_said v0)) C eX11_clauseOf_192 FX11_104 0 rfl rfl ?_
            refine r_bipush C (v := 102) eX11_clauseOf_195 (by decide) ?_
            refine r_bipush C (v := 101) eX11_clauseOf_197 (by decide) ?_
            refine r_bipush C (v := 110) eX11_clauseOf_199 (by decide) ?_
            refine r_bipush C (v := 100) eX11_clauseOf_201 (by decide) ?_
            refine r_S_l (ws' := W_Mo (z_g x) a0 o0 (gMo_ints v0) (gMo_told v0) (gMo_postX v0) (gMo_postStrong v0) (gMo_atRow v0) (gMo_heights v0) (gMo_ship v0) (gMo_lines v0) (gMo_text v0) (gMo_said v0) (gMo_readTold v0) (gMo_readX v0) (gMo_readStrong v0) (gMo_readRow v0) (gMo_parting v0) (gMo_wasShip v0) (gMo_wasLines v0) (gMo_worst v0) (gMo_logRow v0) (gMo_images v0) (gMo_isKept v0)) C (c_Mo_code (z_l x) (z_g x)  102 101 110 100 _ rfl) eX11_clauseOf_203 MX11_146 [] rfl rfl rfl rfl [0, 1, 2, 3, 4, 5, 6, 7, 8, 9, 10, 11, 12, 13, 14, 15, 16, 17, 18, 19] rfl ⟨rfl, rfl, rfl, rfl, rfl, rfl, rfl, rfl, rfl, rfl, rfl, rfl, rfl, rfl, rfl, rfl, rfl, rfl, rfl, rfl, trivial⟩ 20 rfl rfl rfl rfl rfl rfl ?_
            refine r_bipush C (v := 101) eX11_clauseOf_206 (by decide) ?_
            refine r_S_l (ws' := W_Mo (z_g x) a0 o0 (gMo_ints v0) (gMo_told v0) (gMo_postX v0) (gMo_postStrong v0) (gMo_atRow v0) (gMo_heights v0) (gMo_ship v0) (gMo_lines v0) (gMo_text v0) (gMo_said v0) (gMo_readTold v0) (gMo_readX v0) (gMo_readStrong v0) (gMo_readRow v0) (gMo_parting v0) (gMo_wasShip v0) (gMo_wasLines v0) (gMo_worst v0) (gMo_logRow v0) (gMo_images v0) (gMo_isKept v0)) C (c_Mo_longer (z_l x) (z_g x)  (f_Mo_code 102 101 110 100) 101 _ rfl) eX11_clauseOf_208 MX11_150 [] rfl rfl rfl rfl [0, 1, 2, 3, 4, 5, 6, 7, 8, 9, 10, 11, 12, 13, 14, 15, 16, 17, 18, 19] rfl ⟨rfl, rfl, rfl, rfl, rfl, rfl, rfl, rfl, rfl, rfl, rfl, rfl, rfl, rfl, rfl, rfl, rfl, rfl, rfl, rfl, trivial⟩ 20 rfl rfl rfl rfl rfl rfl ?_
            refine r_bipush C (v := 114) eX11_clauseOf_211 (by decide) ?_
            refine r_S_l (ws' := W_Mo (z_g x) a0 o0 (gMo_ints v0) (gMo_told v0) (gMo_postX v0) (gMo_postStrong v0) (gMo_atRow v0) (gMo_heights v0) (gMo_ship v0) (gMo_lines v0) (gMo_text v0) (gMo_said v0) (gMo_readTold v0) (gMo_readX v0) (gMo_readStrong v0) (gMo_readRow v0) (gMo_parting v0) (gMo_wasShip v0) (gMo_wasLines v0) (gMo_worst v0) (gMo_logRow v0) (gMo_images v0) (gMo_isKept v0)) C (c_Mo_longer (z_l x) (z_g x)  (f_Mo_longer (f_Mo_code 102 101 110 100) 101) 114 _ rfl) eX11_clauseOf_213 MX11_150 [] rfl rfl rfl rfl [0, 1, 2, 3, 4, 5, 6, 7, 8, 9, 10, 11, 12, 13, 14, 15, 16, 17, 18, 19] rfl ⟨rfl, rfl, rfl, rfl, rfl, rfl, rfl, rfl, rfl, rfl, rfl, rfl, rfl, rfl, rfl, rfl, rfl, rfl, rfl, rfl, trivial⟩ 20 rfl rfl rfl rfl rfl rfl ?_
            refine r_lcmp_ne C eX11_clauseOf_216 eX11_clauseOf_217 (fun c13 => ?_) (fun c13 => ?_)
            · rw [if_neg c13] at hw7
              refine r_iconst C (v := (-1)) eX11_clauseOf_225 (by decide) ?_
              subst hw7
              refine r_sub (lv' := [(1, .int w1)]) [0] rfl ?_
              exact J8 
            · rw [if_pos c13] at hw7
              refine r_bipush C (v := 8) eX11_clauseOf_220 (by decide) ?_
              refine r_goto C eX11_clauseOf_222 ?_
              subst hw7
              refine r_sub (lv' := [(1, .int w1)]) [0] rfl ?_
              exact J8 
          · rw [if_pos c12] at hw7
            refine r_bipush C (v := 7) eX11_clauseOf_186 (by decide) ?_
            refine r_goto C eX11_clauseOf_188 ?_
            subst hw7
            refine r_sub (lv' := [(1, .int w1)]) [0] rfl ?_
            exact J8 
        · rw [if_pos c11] at hw7
          refine r_bipush C (v := 6) eX11_clauseOf_162 (by decide) ?_
          refine r_goto C eX11_clauseOf_164 ?_
          subst hw7
          refine r_sub (lv' := [(1, .int w1)]) [0] rfl ?_
          exact J8 
      · rw [if_pos c10] at hw7
        refine r_iconst C (v := 5) eX11_clauseOf_139 (by decide) ?_
        refine r_goto C eX11_clauseOf_140 ?_
        subst hw7
        refine r_sub (lv' := [(1, .int w1)]) [0] rfl ?_
        exact J8 
    · rw [if_pos c9] at hw7
      refine r_iconst C (v := 4) eX11_clauseOf_116 (by decide) ?_
      refine r_goto C eX11_clauseOf_117 ?_
      subst hw7
      refine r_sub (lv' := [(1, .int w1)]) [0] rfl ?_
      exact J8 
  refine r_lcmp_ne C eX11_clauseOf_7 eX11_clauseOf_8 (fun c3 => ?_) (fun c3 => ?_)
  · rw [if_neg c3] at hw1
    refine r_aload_n C eX11_clauseOf_15 0 rfl rfl ?_
    refine r_get (v := .long (gMo_said v0)) C eX11_clauseOf_16 FX11_104 0 rfl rfl ?_
    refine r_bipush C (v := 112) eX11_clauseOf_19 (by decide) ?_
    refine r_bipush C (v := 111) eX11_clauseOf_21 (by decide) ?_
    refine r_bipush C (v := 115) eX11_clauseOf_23 (by decide) ?_
    refine r_bipush C (v := 116) eX11_clauseOf_25 (by decide) ?_
    refine r_S_l (ws' := W_Mo (z_g x) a0 o0 (gMo_ints v0) (gMo_told v0) (gMo_postX v0) (gMo_postStrong v0) (gMo_atRow v0) (gMo_heights v0) (gMo_ship v0) (gMo_lines v0) (gMo_text v0) (gMo_said v0) (gMo_readTold v0) (gMo_readX v0) (gMo_readStrong v0) (gMo_readRow v0) (gMo_parting v0) (gMo_wasShip v0) (gMo_wasLines v0) (gMo_worst v0) (gMo_logRow v0) (gMo_images v0) (gMo_isKept v0)) C (c_Mo_code (z_l x) (z_g x)  112 111 115 116 _ rfl) eX11_clauseOf_27 MX11_146 [] rfl rfl rfl rfl [0, 1, 2, 3, 4, 5, 6, 7, 8, 9, 10, 11, 12, 13, 14, 15, 16, 17, 18, 19] rfl ⟨rfl, rfl, rfl, rfl, rfl, rfl, rfl, rfl, rfl, rfl, rfl, rfl, rfl, rfl, rfl, rfl, rfl, rfl, rfl, rfl, trivial⟩ 20 rfl rfl rfl rfl rfl rfl ?_
    refine r_lcmp_ne C eX11_clauseOf_30 eX11_clauseOf_31 (fun c4 => ?_) (fun c4 => ?_)
    · rw [if_neg c4] at hw1
      refine r_aload_n C eX11_clauseOf_38 0 rfl rfl ?_
      refine r_get (v := .long (gMo_said v0)) C eX11_clauseOf_39 FX11_104 0 rfl rfl ?_
      refine r_bipush C (v := 115) eX11_clauseOf_42 (by decide) ?_
      refine r_bipush C (v := 104) eX11_clauseOf_44 (by decide) ?_
      refine r_bipush C (v := 105) eX11_clauseOf_46 (by decide) ?_
      refine r_bipush C (v := 112) eX11_clauseOf_48 (by decide) ?_
      refine r_S_l (ws' := W_Mo (z_g x) a0 o0 (gMo_ints v0) (gMo_told v0) (gMo_postX v0) (gMo_postStrong v0) (gMo_atRow v0) (gMo_heights v0) (gMo_ship v0) (gMo_lines v0) (gMo_text v0) (gMo_said v0) (gMo_readTold v0) (gMo_readX v0) (gMo_readStrong v0) (gMo_readRow v0) (gMo_parting v0) (gMo_wasShip v0) (gMo_wasLines v0) (gMo_worst v0) (gMo_logRow v0) (gMo_images v0) (gMo_isKept v0)) C (c_Mo_code (z_l x) (z_g x)  115 104 105 112 _ rfl) eX11_clauseOf_50 MX11_146 [] rfl rfl rfl rfl [0, 1, 2, 3, 4, 5, 6, 7, 8, 9, 10, 11, 12, 13, 14, 15, 16, 17, 18, 19] rfl ⟨rfl, rfl, rfl, rfl, rfl, rfl, rfl, rfl, rfl, rfl, rfl, rfl, rfl, rfl, rfl, rfl, rfl, rfl, rfl, rfl, trivial⟩ 20 rfl rfl rfl rfl rfl rfl ?_
      refine r_lcmp_ne C eX11_clauseOf_53 eX11_clauseOf_54 (fun c5 => ?_) (fun c5 => ?_)
      · rw [if_neg c5] at hw1
        refine r_aload_n C eX11_clauseOf_61 0 rfl rfl ?_
        refine r_get (v := .long (gMo_said v0)) C eX11_clauseOf_62 FX11_104 0 rfl rfl ?_
        refine r_bipush C (v := 115) eX11_clauseOf_65 (by decide) ?_
        refine r_bipush C (v := 99) eX11_clauseOf_67 (by decide) ?_
        refine r_bipush C (v := 114) eX11_clauseOf_69 (by decide) ?_
        refine r_bipush C (v := 101) eX11_clauseOf_71 (by decide) ?_
        refine r_S_l (ws' := W_Mo (z_g x) a0 o0 (gMo_ints v0) (gMo_told v0) (gMo_postX v0) (gMo_postStrong v0) (gMo_atRow v0) (gMo_heights v0) (gMo_ship v0) (gMo_lines v0) (gMo_text v0) (gMo_said v0) (gMo_readTold v0) (gMo_readX v0) (gMo_readStrong v0) (gMo_readRow v0) (gMo_parting v0) (gMo_wasShip v0) (gMo_wasLines v0) (gMo_worst v0) (gMo_logRow v0) (gMo_images v0) (gMo_isKept v0)) C (c_Mo_code (z_l x) (z_g x)  115 99 114 101 _ rfl) eX11_clauseOf_73 MX11_146 [] rfl rfl rfl rfl [0, 1, 2, 3, 4, 5, 6, 7, 8, 9, 10, 11, 12, 13, 14, 15, 16, 17, 18, 19] rfl ⟨rfl, rfl, rfl, rfl, rfl, rfl, rfl, rfl, rfl, rfl, rfl, rfl, rfl, rfl, rfl, rfl, rfl, rfl, rfl, rfl, trivial⟩ 20 rfl rfl rfl rfl rfl rfl ?_
        refine r_bipush C (v := 119) eX11_clauseOf_76 (by decide) ?_
        refine r_S_l (ws' := W_Mo (z_g x) a0 o0 (gMo_ints v0) (gMo_told v0) (gMo_postX v0) (gMo_postStrong v0) (gMo_atRow v0) (gMo_heights v0) (gMo_ship v0) (gMo_lines v0) (gMo_text v0) (gMo_said v0) (gMo_readTold v0) (gMo_readX v0) (gMo_readStrong v0) (gMo_readRow v0) (gMo_parting v0) (gMo_wasShip v0) (gMo_wasLines v0) (gMo_worst v0) (gMo_logRow v0) (gMo_images v0) (gMo_isKept v0)) C (c_Mo_longer (z_l x) (z_g x)  (f_Mo_code 115 99 114 101) 119 _ rfl) eX11_clauseOf_78 MX11_150 [] rfl rfl rfl rfl [0, 1, 2, 3, 4, 5, 6, 7, 8, 9, 10, 11, 12, 13, 14, 15, 16, 17, 18, 19] rfl ⟨rfl, rfl, rfl, rfl, rfl, rfl, rfl, rfl, rfl, rfl, rfl, rfl, rfl, rfl, rfl, rfl, rfl, rfl, rfl, rfl, trivial⟩ 20 rfl rfl rfl rfl rfl rfl ?_
        refine r_lcmp_ne C eX11_clauseOf_81 eX11_clauseOf_82 (fun c6 => ?_) (fun c6 => ?_)
        · rw [if_neg c6] at hw1
          refine r_iconst C (v := (-1)) eX11_clauseOf_90 (by decide) ?_
          subst hw1
          exact J2 
        · rw [if_pos c6] at hw1
          refine r_bipush C (v := 9) eX11_clauseOf_85 (by decide) ?_
          refine r_goto C eX11_clauseOf_87 ?_
          subst hw1
          exact J2 
      · rw [if_pos c5] at hw1
        refine r_iconst C (v := 2) eX11_clauseOf_57 (by decide) ?_
        refine r_goto C eX11_clauseOf_58 ?_
        subst hw1
        exact J2 
    · rw [if_pos c4] at hw1
      refine r_iconst C (v := 1) eX11_clauseOf_34 (by decide) ?_
      refine r_goto C eX11_clauseOf_35 ?_
      subst hw1
      exact J2 
  · rw [if_pos c3] at hw1
    refine r_iconst C (v := 0) eX11_clauseOf_11 (by decide) ?_
    refine r_goto C eX11_clauseOf_12 ?_
    subst hw1
    exact J2 
