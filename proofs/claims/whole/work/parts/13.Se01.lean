theorem eX6_getsOff_0 : zd 1 cX6_getsOff 0 1 (.aload_n 0) := ⟨by decide +kernel, rfl⟩
theorem eX6_getsOff_1 : zd 3 cX6_getsOff 1 4 (.getfield 18) := ⟨by decide +kernel, rfl⟩
theorem eX6_getsOff_4 : zd 1 cX6_getsOff 4 5 (.aload_n 0) := ⟨by decide +kernel, rfl⟩
theorem eX6_getsOff_5 : zd 3 cX6_getsOff 5 8 (.getfield 12) := ⟨by decide +kernel, rfl⟩
theorem eX6_getsOff_8 : zd 3 cX6_getsOff 8 11 (.invokevirtual 28) := ⟨by decide +kernel, rfl⟩
theorem eX6_getsOff_11 : zd 1 cX6_getsOff 11 12 (.aload_n 0) := ⟨by decide +kernel, rfl⟩
theorem eX6_getsOff_12 : zd 3 cX6_getsOff 12 15 (.getfield 18) := ⟨by decide +kernel, rfl⟩
theorem eX6_getsOff_15 : zd 2 cX6_getsOff 15 17 (.bipush (-3)) := ⟨by decide +kernel, rfl⟩
theorem eX6_getsOff_17 : zd 3 cX6_getsOff 17 20 (.putfield 44) := ⟨by decide +kernel, rfl⟩
theorem eX6_getsOff_20 : zd 1 cX6_getsOff 20 21 (.aload_n 0) := ⟨by decide +kernel, rfl⟩
theorem eX6_getsOff_21 : zd 3 cX6_getsOff 21 24 (.getfield 18) := ⟨by decide +kernel, rfl⟩
theorem eX6_getsOff_24 : zd 1 cX6_getsOff 24 25 (.iconst 0) := ⟨by decide +kernel, rfl⟩
theorem eX6_getsOff_25 : zd 3 cX6_getsOff 25 28 (.putfield 48) := ⟨by decide +kernel, rfl⟩
theorem eX6_getsOff_28 : zd 1 cX6_getsOff 28 29 (.iconst 0) := ⟨by decide +kernel, rfl⟩
theorem eX6_getsOff_29 : zd 1 cX6_getsOff 29 30 (.istore_n 2) := ⟨by decide +kernel, rfl⟩
theorem eX6_getsOff_30 : zd 1 cX6_getsOff 30 31 (.iload_n 2) := ⟨by decide +kernel, rfl⟩
theorem eX6_getsOff_31 : zd 2 cX6_getsOff 31 33 (.bipush 120) := ⟨by decide +kernel, rfl⟩
theorem eX6_getsOff_33 : zdi cX6_getsOff 33 36 69 (.if_icmp .ge) := ⟨36, by decide +kernel, rfl, by decide⟩
theorem eX6_getsOff_36 : zd 1 cX6_getsOff 36 37 (.aload_n 0) := ⟨by decide +kernel, rfl⟩
theorem eX6_getsOff_37 : zd 3 cX6_getsOff 37 40 (.getfield 18) := ⟨by decide +kernel, rfl⟩
theorem eX6_getsOff_40 : zd 3 cX6_getsOff 40 43 (.getfield 32) := ⟨by decide +kernel, rfl⟩
theorem eX6_getsOff_43 : zd 1 cX6_getsOff 43 44 (.aload_n 0) := ⟨by decide +kernel, rfl⟩
theorem eX6_getsOff_44 : zd 3 cX6_getsOff 44 47 (.getfield 12) := ⟨by decide +kernel, rfl⟩
theorem eX6_getsOff_47 : zd 3 cX6_getsOff 47 50 (.getfield 32) := ⟨by decide +kernel, rfl⟩
theorem eX6_getsOff_50 : zd 1 cX6_getsOff 50 51 (.lcmp) := ⟨by decide +kernel, rfl⟩
theorem eX6_getsOff_51 : zdi cX6_getsOff 51 54 69 (.ifCond .ne) := ⟨18, by decide +kernel, rfl, by decide⟩
theorem eX6_getsOff_54 : zd 1 cX6_getsOff 54 55 (.aload_n 0) := ⟨by decide +kernel, rfl⟩
theorem eX6_getsOff_55 : zd 3 cX6_getsOff 55 58 (.getfield 18) := ⟨by decide +kernel, rfl⟩
theorem eX6_getsOff_58 : zd 1 cX6_getsOff 58 59 (.aload_n 1) := ⟨by decide +kernel, rfl⟩
theorem eX6_getsOff_59 : zd 3 cX6_getsOff 59 62 (.invokevirtual 40) := ⟨by decide +kernel, rfl⟩
theorem eX6_getsOff_62 : zd 1 cX6_getsOff 62 63 (.pop) := ⟨by decide +kernel, rfl⟩
theorem eX6_getsOff_63 : zd 3 cX6_getsOff 63 66 (.iinc 2 1) := ⟨by decide +kernel, rfl⟩
theorem eX6_getsOff_66 : zdi cX6_getsOff 66 69 30 (.goto) := ⟨(-36), by decide +kernel, rfl, by decide⟩
theorem eX6_getsOff_69 : zd 1 cX6_getsOff 69 70 (.aload_n 0) := ⟨by decide +kernel, rfl⟩
theorem eX6_getsOff_70 : zd 3 cX6_getsOff 70 73 (.getfield 18) := ⟨by decide +kernel, rfl⟩
theorem eX6_getsOff_73 : zd 3 cX6_getsOff 73 76 (.getfield 32) := ⟨by decide +kernel, rfl⟩
theorem eX6_getsOff_76 : zd 1 cX6_getsOff 76 77 (.aload_n 0) := ⟨by decide +kernel, rfl⟩
theorem eX6_getsOff_77 : zd 3 cX6_getsOff 77 80 (.getfield 12) := ⟨by decide +kernel, rfl⟩
theorem eX6_getsOff_80 : zd 3 cX6_getsOff 80 83 (.getfield 32) := ⟨by decide +kernel, rfl⟩
theorem eX6_getsOff_83 : zd 1 cX6_getsOff 83 84 (.lcmp) := ⟨by decide +kernel, rfl⟩
theorem eX6_getsOff_84 : zdi cX6_getsOff 84 87 91 (.ifCond .ne) := ⟨7, by decide +kernel, rfl, by decide⟩
theorem eX6_getsOff_87 : zd 1 cX6_getsOff 87 88 (.iconst 1) := ⟨by decide +kernel, rfl⟩
theorem eX6_getsOff_88 : zdi cX6_getsOff 88 91 92 (.goto) := ⟨4, by decide +kernel, rfl, by decide⟩
theorem eX6_getsOff_91 : zd 1 cX6_getsOff 91 92 (.iconst 0) := ⟨by decide +kernel, rfl⟩
theorem eX6_getsOff_92 : zd 1 cX6_getsOff 92 93 (.ireturn) := ⟨by decide +kernel, rfl⟩
theorem FX6_12 : zlF RX6 12 6 0 := ⟨(RX6, TX6, 3), rfl, by decide, q309, zin6⟩
theorem FX6_18 : zlF RX6 18 6 1 := ⟨(RX6, TX6, 3), rfl, by decide, q310, zin6⟩
theorem FX6_32 : zlF RX6 32 7 13 := ⟨(RX7, TX7, 18), rfl, by decide, q252, zin7⟩
theorem PX6_44 : zlP RX6 44 7 6 .int := ⟨(RX7, TX7, 18), tyX7, rfl, by decide, q239, zin7, tyX7_ok, nmX7, rfl, by decide +kernel⟩
theorem PX6_48 : zlP RX6 48 7 7 .int := ⟨(RX7, TX7, 18), tyX7, rfl, by decide, q242, zin7, tyX7_ok, nmX7, rfl, by decide +kernel⟩
theorem MX6_28 : zlV RX6 28 yX7_copyFrom cX7_copyFrom 3 (none) 1 := ⟨q892, q875, q876, q7, q877, by decide, by decide, by decide +kernel⟩
theorem MX6_40 : zlV RX6 40 yX7_passSecond cX7_passSecond 4 ((Option.some FieldType.int)) 1 := ⟨q897, q721, q722, q7, q723, by decide, by decide, by decide +kernel⟩
noncomputable def fB_Se_getsOff_30 (v0 : tSe) (v1 : tQu) (r1 : (Nat → Int32) × Int64 × (Nat → Int32) × (Nat → Int32) × (Nat → Int32) × (Nat → Int32)) (ih : (Int32 × (Nat → Int32) × Int64 × (Nat → Int32)) → Option (Int32 × (Nat → Int32) × Int64 × (Nat → Int32))) (s2 : Int32 × (Nat → Int32) × Int64 × (Nat → Int32)) : Option (Int32 × (Nat → Int32) × Int64 × (Nat → Int32)) := (if 120 ≤ (s2.1) then (some ((s2.1), (s2.2.1), (s2.2.2.1), (s2.2.2.2))) else (if (s2.2.2.1) = (gSh_harm (gSe_base v0)) then (Option.bind (f_Sh_passSecond ((s2.2.1), (s2.2.2.1), ((s2.2.2.2), (r1.2.2.2.1), (r1.2.2.2.2.1), (r1.2.2.2.2.2))) v1) (fun (r9 : Int32 × (Nat → Int32) × Int64 × (Nat → Int32)) => (ih (((s2.1) + 1), (r9.2.1), (r9.2.2.1), (r9.2.2.2))))) else (some ((s2.1), (s2.2.1), (s2.2.2.1), (s2.2.2.2)))))
noncomputable def f_Se_getsOff (v0 : tSe) (v1 : tQu)  : Option (Int32 × (Nat → Int32) × Int64 × (Nat → Int32) × (Nat → Int32) × (Nat → Int32) × (Nat → Int32)) := (Option.bind (f_Sh_copyFrom (gSe_probe v0) (gSe_base v0)) (fun (r1 : (Nat → Int32) × Int64 × (Nat → Int32) × (Nat → Int32) × (Nat → Int32) × (Nat → Int32)) => (Option.bind (lp (fB_Se_getsOff_30 v0 v1 r1) LF (0, (upd (upd (r1.1) 6 (-3)) 7 0), (r1.2.1), (r1.2.2.1))) (fun (q3 : Int32 × (Nat → Int32) × Int64 × (Nat → Int32)) => (if (q3.2.2.1) = (gSh_harm (gSe_base v0)) then (some (1, (q3.2.1), (q3.2.2.1), (q3.2.2.2), (r1.2.2.2.1), (r1.2.2.2.2.1), (r1.2.2.2.2.2))) else (some (0, (q3.2.1), (q3.2.2.1), (q3.2.2.2), (r1.2.2.2.1), (r1.2.2.2.2.1), (r1.2.2.2.2.2))))))))
abbrev rm_Se_getsOff : Room := { frames := 4, cells := 0, slots := 0, locals := 102 }
set_option maxHeartbeats 4000000 in
set_option maxRecDepth 100000 in
theorem c_Se_getsOff (l : Launch) (g : zGl) (a0 : Nat → Nat) (o0 : Nat) (v0 : tSe) (a1 : Nat → Nat) (o1 : Nat) (v1 : tQu)  (out : Int32 × (Nat → Int32) × Int64 × (Nat → Int32) × (Nat → Int32) × (Nat → Int32) × (Nat → Int32)) (hf : f_Se_getsOff v0 v1 = some out) : zMz l yX6_getsOff cX6_getsOff 3 rm_Se_getsOff g [.ref (a0 o0), .ref (a1 o1)] (W_Se g a0 o0 (gSh_ints (gSe_base v0)) (gSh_harm (gSe_base v0)) (gLi_fast (gSh_lines (gSe_base v0))) (gLi_place (gSh_lines (gSe_base v0))) (gLi_post (gSh_lines (gSe_base v0))) (gLi_length (gSh_lines (gSe_base v0))) (gSh_ints (gSe_probe v0)) (gSh_harm (gSe_probe v0)) (gLi_fast (gSh_lines (gSe_probe v0))) (gLi_place (gSh_lines (gSe_probe v0))) (gLi_post (gSh_lines (gSe_probe v0))) (gLi_length (gSh_lines (gSe_probe v0))) (gQu_ints (gSe_other v0)) (gQu_places (gSe_other v0)) (gQu_strengths (gSe_other v0)) ++ W_Qu g a1 o1 (gQu_ints v1) (gQu_places v1) (gQu_strengths v1)) (out.1) (W_Se g a0 o0 (gSh_ints (gSe_base v0)) (gSh_harm (gSe_base v0)) (gLi_fast (gSh_lines (gSe_base v0))) (gLi_place (gSh_lines (gSe_base v0))) (gLi_post (gSh_lines (gSe_base v0))) (gLi_length (gSh_lines (gSe_base v0))) (out.2.1) (out.2.2.1) (out.2.2.2.1) (out.2.2.2.2.1) (out.2.2.2.2.2.1) (out.2.2.2.2.2.2) (gQu_ints (gSe_other v0)) (gQu_places (gSe_other v0)) (gQu_strengths (gSe_other v0)) ++ W_Qu g a1 o1 (gQu_ints v1) (gQu_places v1) (gQu_strengths v1)) := by
  refine zMz_of (lv := [(0, .ref (a0 o0)), (1, .ref (a1 o1))]) (by decide) (Nat.le_of_ble_eq_true rfl) rfl (fun x hl hg C hret => ?_)
  subst hl; subst hg
  rw [f_Se_getsOff] at hf
  refine r_aload_n C eX6_getsOff_0 0 rfl rfl ?_
  refine r_get (v := .ref (a0 (o0 + 7))) C eX6_getsOff_1 FX6_18 0 rfl rfl ?_
  refine r_aload_n C eX6_getsOff_4 0 rfl rfl ?_
  refine r_get (v := .ref (a0 (o0 + 1))) C eX6_getsOff_5 FX6_12 0 rfl rfl ?_
  obtain ⟨r1, hr1, hf⟩ := zbind hf
  refine r_V_v (ws' := W_Se (z_g x) a0 o0 (gSh_ints (gSe_base v0)) (gSh_harm (gSe_base v0)) (gLi_fast (gSh_lines (gSe_base v0))) (gLi_place (gSh_lines (gSe_base v0))) (gLi_post (gSh_lines (gSe_base v0))) (gLi_length (gSh_lines (gSe_base v0))) (r1.1) (r1.2.1) (r1.2.2.1) (r1.2.2.2.1) (r1.2.2.2.2.1) (r1.2.2.2.2.2) (gQu_ints (gSe_other v0)) (gQu_places (gSe_other v0)) (gQu_strengths (gSe_other v0)) ++ W_Qu (z_g x) a1 o1 (gQu_ints v1) (gQu_places v1) (gQu_strengths v1)) C (c_Sh_copyFrom (z_l x) (z_g x) a0 (o0 + 7) (gSe_probe v0) a0 (o0 + 1) (gSe_base v0)  r1 hr1) eX6_getsOff_8 MX6_28 ⟨0, 7, _, _, rfl, rfl, rfl⟩ [7, 8, 9, 10, 11, 12, 1, 2, 3, 4, 5, 6] rfl rfl rfl rfl [0, 13, 14, 15, 16, 17, 18] rfl ⟨rfl, rfl, rfl, rfl, rfl, rfl, rfl, trivial⟩ 19 rfl rfl rfl rfl rfl rfl ?_
  refine r_aload_n C eX6_getsOff_11 0 rfl rfl ?_
  refine r_get (v := .ref (a0 (o0 + 7))) C eX6_getsOff_12 FX6_18 0 rfl rfl ?_
  refine r_bipush C (v := (-3)) eX6_getsOff_15 (by decide) ?_
  refine r_put (ws' := W_Se (z_g x) a0 o0 (gSh_ints (gSe_base v0)) (gSh_harm (gSe_base v0)) (gLi_fast (gSh_lines (gSe_base v0))) (gLi_place (gSh_lines (gSe_base v0))) (gLi_post (gSh_lines (gSe_base v0))) (gLi_length (gSh_lines (gSe_base v0))) (upd (r1.1) 6 (-3)) (r1.2.1) (r1.2.2.1) (r1.2.2.2.1) (r1.2.2.2.2.1) (r1.2.2.2.2.2) (gQu_ints (gSe_other v0)) (gQu_places (gSe_other v0)) (gQu_strengths (gSe_other v0)) ++ W_Qu (z_g x) a1 o1 (gQu_ints v1) (gQu_places v1) (gQu_strengths v1)) C eX6_getsOff_17 PX6_44 7 rfl rfl rfl (Nat.le_of_ble_eq_true rfl) rfl ?_
  refine r_aload_n C eX6_getsOff_20 0 rfl rfl ?_
  refine r_get (v := .ref (a0 (o0 + 7))) C eX6_getsOff_21 FX6_18 0 rfl rfl ?_
  refine r_iconst C (v := 0) eX6_getsOff_24 (by decide) ?_
  refine r_put (ws' := W_Se (z_g x) a0 o0 (gSh_ints (gSe_base v0)) (gSh_harm (gSe_base v0)) (gLi_fast (gSh_lines (gSe_base v0))) (gLi_place (gSh_lines (gSe_base v0))) (gLi_post (gSh_lines (gSe_base v0))) (gLi_length (gSh_lines (gSe_base v0))) (upd (upd (r1.1) 6 (-3)) 7 0) (r1.2.1) (r1.2.2.1) (r1.2.2.2.1) (r1.2.2.2.2.1) (r1.2.2.2.2.2) (gQu_ints (gSe_other v0)) (gQu_places (gSe_other v0)) (gQu_strengths (gSe_other v0)) ++ W_Qu (z_g x) a1 o1 (gQu_ints v1) (gQu_places v1) (gQu_strengths v1)) C eX6_getsOff_25 PX6_48 7 rfl rfl rfl (Nat.le_of_ble_eq_true rfl) rfl ?_
  refine r_iconst C (v := 0) eX6_getsOff_28 (by decide) ?_
  refine r_istore_n C [(2, .int 0), (0, .ref (a0 o0)), (1, .ref (a1 o1))] eX6_getsOff_29 rfl (by decide) rfl ?_
  obtain ⟨q3, h4, hf⟩ := zbind hf
  have J5 : vV x 3 0 0 (W_Se (z_g x) a0 o0 (gSh_ints (gSe_base v0)) (gSh_harm (gSe_base v0)) (gLi_fast (gSh_lines (gSe_base v0))) (gLi_place (gSh_lines (gSe_base v0))) (gLi_post (gSh_lines (gSe_base v0))) (gLi_length (gSh_lines (gSe_base v0))) (q3.2.1) (q3.2.2.1) (q3.2.2.2) (r1.2.2.2.1) (r1.2.2.2.2.1) (r1.2.2.2.2.2) (gQu_ints (gSe_other v0)) (gQu_places (gSe_other v0)) (gQu_strengths (gSe_other v0)) ++ W_Qu (z_g x) a1 o1 (gQu_ints v1) (gQu_places v1) (gQu_strengths v1)) 69 [(0, .ref (a0 o0))] [] := by
    refine r_aload_n C eX6_getsOff_69 0 rfl rfl ?_
    refine r_get (v := .ref (a0 (o0 + 7))) C eX6_getsOff_70 FX6_18 0 rfl rfl ?_
    refine r_get (v := .long (q3.2.2.1)) C eX6_getsOff_73 FX6_32 7 rfl rfl ?_
    refine r_aload_n C eX6_getsOff_76 0 rfl rfl ?_
    refine r_get (v := .ref (a0 (o0 + 1))) C eX6_getsOff_77 FX6_12 0 rfl rfl ?_
    refine r_get (v := .long (gSh_harm (gSe_base v0))) C eX6_getsOff_80 FX6_32 1 rfl rfl ?_
    refine r_lcmp_ne C eX6_getsOff_83 eX6_getsOff_84 (fun c10 => ?_) (fun c10 => ?_)
    · rw [if_neg c10] at hf
      refine r_iconst C (v := 0) eX6_getsOff_91 (by decide) ?_
      obtain rfl := Option.some.inj (show some ((0, (q3.2.1), (q3.2.2.1), (q3.2.2.2), (r1.2.2.2.1), (r1.2.2.2.2.1), (r1.2.2.2.2.2)) : Int32 × (Nat → Int32) × Int64 × (Nat → Int32) × (Nat → Int32) × (Nat → Int32) × (Nat → Int32)) = some _ from hf)
      exact hret _ _ _ eX6_getsOff_92 zB0
    · rw [if_pos c10] at hf
      refine r_iconst C (v := 1) eX6_getsOff_87 (by decide) ?_
      refine r_goto C eX6_getsOff_88 ?_
      obtain rfl := Option.some.inj (show some ((1, (q3.2.1), (q3.2.2.1), (q3.2.2.2), (r1.2.2.2.1), (r1.2.2.2.2.1), (r1.2.2.2.2.2)) : Int32 × (Nat → Int32) × Int64 × (Nat → Int32) × (Nat → Int32) × (Nat → Int32) × (Nat → Int32)) = some _ from hf)
      exact hret _ _ _ eX6_getsOff_92 zB1
  have L6 : ∀ (nL6 : Nat) (s2 : Int32 × (Nat → Int32) × Int64 × (Nat → Int32)), lp (fB_Se_getsOff_30 v0 v1 r1) nL6 s2 = some q3 → vV x 3 0 0 (W_Se (z_g x) a0 o0 (gSh_ints (gSe_base v0)) (gSh_harm (gSe_base v0)) (gLi_fast (gSh_lines (gSe_base v0))) (gLi_place (gSh_lines (gSe_base v0))) (gLi_post (gSh_lines (gSe_base v0))) (gLi_length (gSh_lines (gSe_base v0))) (s2.2.1) (s2.2.2.1) (s2.2.2.2) (r1.2.2.2.1) (r1.2.2.2.2.1) (r1.2.2.2.2.2) (gQu_ints (gSe_other v0)) (gQu_places (gSe_other v0)) (gQu_strengths (gSe_other v0)) ++ W_Qu (z_g x) a1 o1 (gQu_ints v1) (gQu_places v1) (gQu_strengths v1)) 30 [(0, .ref (a0 o0)), (1, .ref (a1 o1)), (2, .int (s2.1))] [] := by
    intro nL6
    induction nL6 with
    | zero => intro s2 hq; cases hq
    | succ nL6 ihL6 =>
      intro s2 hbL6
      rw [lp_succ, fB_Se_getsOff_30] at hbL6
      refine r_iload_n C eX6_getsOff_30 2 rfl rfl ?_
      refine r_bipush C (v := 120) eX6_getsOff_31 (by decide) ?_
      refine r_icmp_ge C eX6_getsOff_33 (fun c7 => ?_) (fun c7 => ?_)
      · rw [if_pos c7] at hbL6
        obtain rfl := Option.some.inj hbL6
        refine r_sub (lv' := [(0, .ref (a0 o0))]) [0] rfl ?_
        exact J5
      · rw [if_neg c7] at hbL6
        refine r_aload_n C eX6_getsOff_36 0 rfl rfl ?_
        refine r_get (v := .ref (a0 (o0 + 7))) C eX6_getsOff_37 FX6_18 0 rfl rfl ?_
        refine r_get (v := .long (s2.2.2.1)) C eX6_getsOff_40 FX6_32 7 rfl rfl ?_
        refine r_aload_n C eX6_getsOff_43 0 rfl rfl ?_
        refine r_get (v := .ref (a0 (o0 + 1))) C eX6_getsOff_44 FX6_12 0 rfl rfl ?_
        refine r_get (v := .long (gSh_harm (gSe_base v0))) C eX6_getsOff_47 FX6_32 1 rfl rfl ?_
        refine r_lcmp_ne C eX6_getsOff_50 eX6_getsOff_51 (fun c8 => ?_) (fun c8 => ?_)
        · rw [if_neg c8] at hbL6
          obtain rfl := Option.some.inj hbL6
          refine r_sub (lv' := [(0, .ref (a0 o0))]) [0] rfl ?_
          exact J5
        · rw [if_pos c8] at hbL6
          refine r_aload_n C eX6_getsOff_54 0 rfl rfl ?_
          refine r_get (v := .ref (a0 (o0 + 7))) C eX6_getsOff_55 FX6_18 0 rfl rfl ?_
          refine r_aload_n C eX6_getsOff_58 1 rfl rfl ?_
          obtain ⟨r9, hr9, hbL6⟩ := zbind hbL6
          refine r_V_i (ws' := W_Se (z_g x) a0 o0 (gSh_ints (gSe_base v0)) (gSh_harm (gSe_base v0)) (gLi_fast (gSh_lines (gSe_base v0))) (gLi_place (gSh_lines (gSe_base v0))) (gLi_post (gSh_lines (gSe_base v0))) (gLi_length (gSh_lines (gSe_base v0))) (r9.2.1) (r9.2.2.1) (r9.2.2.2) (r1.2.2.2.1) (r1.2.2.2.2.1) (r1.2.2.2.2.2) (gQu_ints (gSe_other v0)) (gQu_places (gSe_other v0)) (gQu_strengths (gSe_other v0)) ++ W_Qu (z_g x) a1 o1 (gQu_ints v1) (gQu_places v1) (gQu_strengths v1)) C (c_Sh_passSecond (z_l x) (z_g x) a0 (o0 + 7) ((s2.2.1), (s2.2.2.1), ((s2.2.2.2), (r1.2.2.2.1), (r1.2.2.2.2.1), (r1.2.2.2.2.2))) a1 o1 v1  r9 hr9) eX6_getsOff_59 MX6_40 ⟨0, 7, _, _, rfl, rfl, rfl⟩ [7, 8, 9, 10, 11, 12, 16, 17, 18] rfl rfl rfl rfl [0, 1, 2, 3, 4, 5, 6, 13, 14, 15] rfl ⟨rfl, rfl, rfl, rfl, rfl, rfl, rfl, rfl, rfl, rfl, trivial⟩ 19 rfl rfl rfl rfl rfl rfl ?_
          refine r_pop C eX6_getsOff_62 rfl ?_
          refine r_iinc C (v := ((s2.1) + 1)) [(2, .int ((s2.1) + 1)), (0, .ref (a0 o0)), (1, .ref (a1 o1))] eX6_getsOff_63 2 rfl rfl (by decide) rfl ?_
          refine r_goto C eX6_getsOff_66 ?_
          refine r_sub (lv' := [(0, .ref (a0 o0)), (1, .ref (a1 o1)), (2, .int ((s2.1) + 1))]) [1, 2, 0] rfl ?_
          have hc := ihL6 (((s2.1) + 1), (r9.2.1), (r9.2.2.1), (r9.2.2.2)) hbL6
          exact hc
  refine r_sub (lv' := [(0, .ref (a0 o0)), (1, .ref (a1 o1)), (2, .int 0)]) [1, 2, 0] rfl ?_
  have hc := L6 LF (0, (upd (upd (r1.1) 6 (-3)) 7 0), (r1.2.1), (r1.2.2.1)) h4
  exact hc
