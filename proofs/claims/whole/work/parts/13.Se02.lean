theorem eX6_greatestOff_0 : zd 1 cX6_greatestOff 0 1 (.iconst (-1)) := ⟨by decide +kernel, rfl⟩
theorem eX6_greatestOff_1 : zd 1 cX6_greatestOff 1 2 (.istore_n 3) := ⟨by decide +kernel, rfl⟩
theorem eX6_greatestOff_2 : zd 1 cX6_greatestOff 2 3 (.aload_n 0) := ⟨by decide +kernel, rfl⟩
theorem eX6_greatestOff_3 : zd 3 cX6_greatestOff 3 6 (.getfield 12) := ⟨by decide +kernel, rfl⟩
theorem eX6_greatestOff_6 : zd 1 cX6_greatestOff 6 7 (.aload_n 2) := ⟨by decide +kernel, rfl⟩
theorem eX6_greatestOff_7 : zd 3 cX6_greatestOff 7 10 (.invokevirtual 28) := ⟨by decide +kernel, rfl⟩
theorem eX6_greatestOff_10 : zd 1 cX6_greatestOff 10 11 (.iconst 0) := ⟨by decide +kernel, rfl⟩
theorem eX6_greatestOff_11 : zd 2 cX6_greatestOff 11 13 (.istore 4) := ⟨by decide +kernel, rfl⟩
theorem eX6_greatestOff_13 : zd 2 cX6_greatestOff 13 15 (.iload 4) := ⟨by decide +kernel, rfl⟩
theorem eX6_greatestOff_15 : zd 2 cX6_greatestOff 15 17 (.bipush 120) := ⟨by decide +kernel, rfl⟩
theorem eX6_greatestOff_17 : zdi cX6_greatestOff 17 20 61 (.if_icmp .gt) := ⟨44, by decide +kernel, rfl, by decide⟩
theorem eX6_greatestOff_20 : zd 1 cX6_greatestOff 20 21 (.aload_n 0) := ⟨by decide +kernel, rfl⟩
theorem eX6_greatestOff_21 : zd 3 cX6_greatestOff 21 24 (.getfield 12) := ⟨by decide +kernel, rfl⟩
theorem eX6_greatestOff_24 : zd 3 cX6_greatestOff 24 27 (.getfield 32) := ⟨by decide +kernel, rfl⟩
theorem eX6_greatestOff_27 : zd 1 cX6_greatestOff 27 28 (.aload_n 2) := ⟨by decide +kernel, rfl⟩
theorem eX6_greatestOff_28 : zd 3 cX6_greatestOff 28 31 (.getfield 32) := ⟨by decide +kernel, rfl⟩
theorem eX6_greatestOff_31 : zd 1 cX6_greatestOff 31 32 (.lcmp) := ⟨by decide +kernel, rfl⟩
theorem eX6_greatestOff_32 : zdi cX6_greatestOff 32 35 61 (.ifCond .ne) := ⟨29, by decide +kernel, rfl, by decide⟩
theorem eX6_greatestOff_35 : zd 1 cX6_greatestOff 35 36 (.aload_n 0) := ⟨by decide +kernel, rfl⟩
theorem eX6_greatestOff_36 : zd 1 cX6_greatestOff 36 37 (.aload_n 1) := ⟨by decide +kernel, rfl⟩
theorem eX6_greatestOff_37 : zd 3 cX6_greatestOff 37 40 (.invokevirtual 57) := ⟨by decide +kernel, rfl⟩
theorem eX6_greatestOff_40 : zdi cX6_greatestOff 40 43 46 (.ifCond .eq) := ⟨6, by decide +kernel, rfl, by decide⟩
theorem eX6_greatestOff_43 : zd 2 cX6_greatestOff 43 45 (.iload 4) := ⟨by decide +kernel, rfl⟩
theorem eX6_greatestOff_45 : zd 1 cX6_greatestOff 45 46 (.istore_n 3) := ⟨by decide +kernel, rfl⟩
theorem eX6_greatestOff_46 : zd 1 cX6_greatestOff 46 47 (.aload_n 0) := ⟨by decide +kernel, rfl⟩
theorem eX6_greatestOff_47 : zd 3 cX6_greatestOff 47 50 (.getfield 12) := ⟨by decide +kernel, rfl⟩
theorem eX6_greatestOff_50 : zd 1 cX6_greatestOff 50 51 (.aload_n 1) := ⟨by decide +kernel, rfl⟩
theorem eX6_greatestOff_51 : zd 3 cX6_greatestOff 51 54 (.invokevirtual 40) := ⟨by decide +kernel, rfl⟩
theorem eX6_greatestOff_54 : zd 1 cX6_greatestOff 54 55 (.pop) := ⟨by decide +kernel, rfl⟩
theorem eX6_greatestOff_55 : zd 3 cX6_greatestOff 55 58 (.iinc 4 1) := ⟨by decide +kernel, rfl⟩
theorem eX6_greatestOff_58 : zdi cX6_greatestOff 58 61 13 (.goto) := ⟨(-45), by decide +kernel, rfl, by decide⟩
theorem eX6_greatestOff_61 : zd 1 cX6_greatestOff 61 62 (.iload_n 3) := ⟨by decide +kernel, rfl⟩
theorem eX6_greatestOff_62 : zd 1 cX6_greatestOff 62 63 (.ireturn) := ⟨by decide +kernel, rfl⟩
theorem MX6_57 : zlV RX6 57 yX6_getsOff cX6_getsOff 3 ((Option.some FieldType.boolean)) 1 := ⟨q907, q909, qs20, q9, q910, by decide, by decide, by decide +kernel⟩
noncomputable def fB_Se_greatestOff_13 (v0 : tSe) (v1 : tQu) (v2 : tSh) (r1 : (Nat → Int32) × Int64 × (Nat → Int32) × (Nat → Int32) × (Nat → Int32) × (Nat → Int32)) (ih : (Int32 × Int32 × (Nat → Int32) × Int64 × (Nat → Int32) × (Nat → Int32) × Int64 × (Nat → Int32) × (Nat → Int32) × (Nat → Int32) × (Nat → Int32)) → Option (Int32 × Int32 × (Nat → Int32) × Int64 × (Nat → Int32) × (Nat → Int32) × Int64 × (Nat → Int32) × (Nat → Int32) × (Nat → Int32) × (Nat → Int32))) (s2 : Int32 × Int32 × (Nat → Int32) × Int64 × (Nat → Int32) × (Nat → Int32) × Int64 × (Nat → Int32) × (Nat → Int32) × (Nat → Int32) × (Nat → Int32)) : Option (Int32 × Int32 × (Nat → Int32) × Int64 × (Nat → Int32) × (Nat → Int32) × Int64 × (Nat → Int32) × (Nat → Int32) × (Nat → Int32) × (Nat → Int32)) := (if 120 < (s2.2.1) then (some ((s2.1), (s2.2.1), (s2.2.2.1), (s2.2.2.2.1), (s2.2.2.2.2.1), (s2.2.2.2.2.2.1), (s2.2.2.2.2.2.2.1), (s2.2.2.2.2.2.2.2.1), (s2.2.2.2.2.2.2.2.2.1), (s2.2.2.2.2.2.2.2.2.2.1), (s2.2.2.2.2.2.2.2.2.2.2))) else (if (s2.2.2.2.1) = (gSh_harm v2) then (Option.bind (f_Se_getsOff (((s2.2.2.1), (s2.2.2.2.1), ((s2.2.2.2.2.1), (r1.2.2.2.1), (r1.2.2.2.2.1), (r1.2.2.2.2.2))), ((s2.2.2.2.2.2.1), (s2.2.2.2.2.2.2.1), ((s2.2.2.2.2.2.2.2.1), (s2.2.2.2.2.2.2.2.2.1), (s2.2.2.2.2.2.2.2.2.2.1), (s2.2.2.2.2.2.2.2.2.2.2))), (gSe_other v0)) v1) (fun (r9 : Int32 × (Nat → Int32) × Int64 × (Nat → Int32) × (Nat → Int32) × (Nat → Int32) × (Nat → Int32)) => (zlet (if (r9.1) = 0 then (s2.1) else (s2.2.1)) (fun (w11 : Int32) => (Option.bind (f_Sh_passSecond ((s2.2.2.1), (s2.2.2.2.1), ((s2.2.2.2.2.1), (r1.2.2.2.1), (r1.2.2.2.2.1), (r1.2.2.2.2.2))) v1) (fun (r14 : Int32 × (Nat → Int32) × Int64 × (Nat → Int32)) => (ih (w11, ((s2.2.1) + 1), (r14.2.1), (r14.2.2.1), (r14.2.2.2), (r9.2.1), (r9.2.2.1), (r9.2.2.2.1), (r9.2.2.2.2.1), (r9.2.2.2.2.2.1), (r9.2.2.2.2.2.2))))))))) else (some ((s2.1), (s2.2.1), (s2.2.2.1), (s2.2.2.2.1), (s2.2.2.2.2.1), (s2.2.2.2.2.2.1), (s2.2.2.2.2.2.2.1), (s2.2.2.2.2.2.2.2.1), (s2.2.2.2.2.2.2.2.2.1), (s2.2.2.2.2.2.2.2.2.2.1), (s2.2.2.2.2.2.2.2.2.2.2)))))
noncomputable def f_Se_greatestOff (v0 : tSe) (v1 : tQu) (v2 : tSh)  : Option (Int32 × (Nat → Int32) × Int64 × (Nat → Int32) × (Nat → Int32) × (Nat → Int32) × (Nat → Int32) × (Nat → Int32) × Int64 × (Nat → Int32) × (Nat → Int32) × (Nat → Int32) × (Nat → Int32)) := (Option.bind (f_Sh_copyFrom (gSe_base v0) v2) (fun (r1 : (Nat → Int32) × Int64 × (Nat → Int32) × (Nat → Int32) × (Nat → Int32) × (Nat → Int32)) => (Option.bind (lp (fB_Se_greatestOff_13 v0 v1 v2 r1) LF ((-1), 0, (r1.1), (r1.2.1), (r1.2.2.1), (gSh_ints (gSe_probe v0)), (gSh_harm (gSe_probe v0)), (gLi_fast (gSh_lines (gSe_probe v0))), (gLi_place (gSh_lines (gSe_probe v0))), (gLi_post (gSh_lines (gSe_probe v0))), (gLi_length (gSh_lines (gSe_probe v0))))) (fun (q3 : Int32 × Int32 × (Nat → Int32) × Int64 × (Nat → Int32) × (Nat → Int32) × Int64 × (Nat → Int32) × (Nat → Int32) × (Nat → Int32) × (Nat → Int32)) => (some ((q3.1), (q3.2.2.1), (q3.2.2.2.1), (q3.2.2.2.2.1), (r1.2.2.2.1), (r1.2.2.2.2.1), (r1.2.2.2.2.2), (q3.2.2.2.2.2.1), (q3.2.2.2.2.2.2.1), (q3.2.2.2.2.2.2.2.1), (q3.2.2.2.2.2.2.2.2.1), (q3.2.2.2.2.2.2.2.2.2.1), (q3.2.2.2.2.2.2.2.2.2.2)))))))
abbrev rm_Se_greatestOff : Room := { frames := 5, cells := 0, slots := 0, locals := 124 }
set_option maxHeartbeats 4000000 in
set_option maxRecDepth 100000 in
theorem c_Se_greatestOff (l : Launch) (g : zGl) (a0 : Nat → Nat) (o0 : Nat) (v0 : tSe) (a1 : Nat → Nat) (o1 : Nat) (v1 : tQu) (a2 : Nat → Nat) (o2 : Nat) (v2 : tSh)  (out : Int32 × (Nat → Int32) × Int64 × (Nat → Int32) × (Nat → Int32) × (Nat → Int32) × (Nat → Int32) × (Nat → Int32) × Int64 × (Nat → Int32) × (Nat → Int32) × (Nat → Int32) × (Nat → Int32)) (hf : f_Se_greatestOff v0 v1 v2 = some out) : zMi l yX6_greatestOff cX6_greatestOff 5 rm_Se_greatestOff g [.ref (a0 o0), .ref (a1 o1), .ref (a2 o2)] (W_Se g a0 o0 (gSh_ints (gSe_base v0)) (gSh_harm (gSe_base v0)) (gLi_fast (gSh_lines (gSe_base v0))) (gLi_place (gSh_lines (gSe_base v0))) (gLi_post (gSh_lines (gSe_base v0))) (gLi_length (gSh_lines (gSe_base v0))) (gSh_ints (gSe_probe v0)) (gSh_harm (gSe_probe v0)) (gLi_fast (gSh_lines (gSe_probe v0))) (gLi_place (gSh_lines (gSe_probe v0))) (gLi_post (gSh_lines (gSe_probe v0))) (gLi_length (gSh_lines (gSe_probe v0))) (gQu_ints (gSe_other v0)) (gQu_places (gSe_other v0)) (gQu_strengths (gSe_other v0)) ++ W_Qu g a1 o1 (gQu_ints v1) (gQu_places v1) (gQu_strengths v1) ++ W_Sh g a2 o2 (gSh_ints v2) (gSh_harm v2) (gLi_fast (gSh_lines v2)) (gLi_place (gSh_lines v2)) (gLi_post (gSh_lines v2)) (gLi_length (gSh_lines v2))) (out.1) (W_Se g a0 o0 (out.2.1) (out.2.2.1) (out.2.2.2.1) (out.2.2.2.2.1) (out.2.2.2.2.2.1) (out.2.2.2.2.2.2.1) (out.2.2.2.2.2.2.2.1) (out.2.2.2.2.2.2.2.2.1) (out.2.2.2.2.2.2.2.2.2.1) (out.2.2.2.2.2.2.2.2.2.2.1) (out.2.2.2.2.2.2.2.2.2.2.2.1) (out.2.2.2.2.2.2.2.2.2.2.2.2) (gQu_ints (gSe_other v0)) (gQu_places (gSe_other v0)) (gQu_strengths (gSe_other v0)) ++ W_Qu g a1 o1 (gQu_ints v1) (gQu_places v1) (gQu_strengths v1) ++ W_Sh g a2 o2 (gSh_ints v2) (gSh_harm v2) (gLi_fast (gSh_lines v2)) (gLi_place (gSh_lines v2)) (gLi_post (gSh_lines v2)) (gLi_length (gSh_lines v2))) := by
  refine zMi_of (lv := [(0, .ref (a0 o0)), (1, .ref (a1 o1)), (2, .ref (a2 o2))]) (by decide) (Nat.le_of_ble_eq_true rfl) rfl (fun x hl hg C hret => ?_)
  subst hl; subst hg
  rw [f_Se_greatestOff] at hf
  refine r_iconst C (v := (-1)) eX6_greatestOff_0 (by decide) ?_
  refine r_istore_n C [(3, .int (-1)), (0, .ref (a0 o0)), (1, .ref (a1 o1)), (2, .ref (a2 o2))] eX6_greatestOff_1 rfl (by decide) rfl ?_
  refine r_aload_n C eX6_greatestOff_2 1 rfl rfl ?_
  refine r_get (v := .ref (a0 (o0 + 1))) C eX6_greatestOff_3 FX6_12 0 rfl rfl ?_
  refine r_aload_n C eX6_greatestOff_6 3 rfl rfl ?_
  obtain ⟨r1, hr1, hf⟩ := zbind hf
  refine r_V_v (ws' := W_Se (z_g x) a0 o0 (r1.1) (r1.2.1) (r1.2.2.1) (r1.2.2.2.1) (r1.2.2.2.2.1) (r1.2.2.2.2.2) (gSh_ints (gSe_probe v0)) (gSh_harm (gSe_probe v0)) (gLi_fast (gSh_lines (gSe_probe v0))) (gLi_place (gSh_lines (gSe_probe v0))) (gLi_post (gSh_lines (gSe_probe v0))) (gLi_length (gSh_lines (gSe_probe v0))) (gQu_ints (gSe_other v0)) (gQu_places (gSe_other v0)) (gQu_strengths (gSe_other v0)) ++ W_Qu (z_g x) a1 o1 (gQu_ints v1) (gQu_places v1) (gQu_strengths v1) ++ W_Sh (z_g x) a2 o2 (gSh_ints v2) (gSh_harm v2) (gLi_fast (gSh_lines v2)) (gLi_place (gSh_lines v2)) (gLi_post (gSh_lines v2)) (gLi_length (gSh_lines v2))) C (c_Sh_copyFrom (z_l x) (z_g x) a0 (o0 + 1) (gSe_base v0) a2 o2 v2  r1 hr1) eX6_greatestOff_7 MX6_28 ⟨0, 7, _, _, rfl, rfl, rfl⟩ [1, 2, 3, 4, 5, 6, 19, 20, 21, 22, 23, 24] rfl rfl rfl rfl [0, 7, 8, 9, 10, 11, 12, 13, 14, 15, 16, 17, 18] rfl ⟨rfl, rfl, rfl, rfl, rfl, rfl, rfl, rfl, rfl, rfl, rfl, rfl, rfl, trivial⟩ 25 rfl rfl rfl rfl rfl rfl ?_
  refine r_iconst C (v := 0) eX6_greatestOff_10 (by decide) ?_
  refine r_istore C [(4, .int 0), (3, .int (-1)), (0, .ref (a0 o0)), (1, .ref (a1 o1)), (2, .ref (a2 o2))] eX6_greatestOff_11 (by decide) rfl ?_
  obtain ⟨q3, h4, hf⟩ := zbind hf
  have J5 : vV x 5 0 0 (W_Se (z_g x) a0 o0 (q3.2.2.1) (q3.2.2.2.1) (q3.2.2.2.2.1) (r1.2.2.2.1) (r1.2.2.2.2.1) (r1.2.2.2.2.2) (q3.2.2.2.2.2.1) (q3.2.2.2.2.2.2.1) (q3.2.2.2.2.2.2.2.1) (q3.2.2.2.2.2.2.2.2.1) (q3.2.2.2.2.2.2.2.2.2.1) (q3.2.2.2.2.2.2.2.2.2.2) (gQu_ints (gSe_other v0)) (gQu_places (gSe_other v0)) (gQu_strengths (gSe_other v0)) ++ W_Qu (z_g x) a1 o1 (gQu_ints v1) (gQu_places v1) (gQu_strengths v1) ++ W_Sh (z_g x) a2 o2 (gSh_ints v2) (gSh_harm v2) (gLi_fast (gSh_lines v2)) (gLi_place (gSh_lines v2)) (gLi_post (gSh_lines v2)) (gLi_length (gSh_lines v2))) 61 [(3, .int (q3.1))] [] := by
    refine r_iload_n C eX6_greatestOff_61 0 rfl rfl ?_
    obtain rfl := Option.some.inj (show some (((q3.1), (q3.2.2.1), (q3.2.2.2.1), (q3.2.2.2.2.1), (r1.2.2.2.1), (r1.2.2.2.2.1), (r1.2.2.2.2.2), (q3.2.2.2.2.2.1), (q3.2.2.2.2.2.2.1), (q3.2.2.2.2.2.2.2.1), (q3.2.2.2.2.2.2.2.2.1), (q3.2.2.2.2.2.2.2.2.2.1), (q3.2.2.2.2.2.2.2.2.2.2)) : Int32 × (Nat → Int32) × Int64 × (Nat → Int32) × (Nat → Int32) × (Nat → Int32) × (Nat → Int32) × (Nat → Int32) × Int64 × (Nat → Int32) × (Nat → Int32) × (Nat → Int32) × (Nat → Int32)) = some _ from hf)
    exact hret _ _ _ eX6_greatestOff_62
  have L6 : ∀ (nL6 : Nat) (s2 : Int32 × Int32 × (Nat → Int32) × Int64 × (Nat → Int32) × (Nat → Int32) × Int64 × (Nat → Int32) × (Nat → Int32) × (Nat → Int32) × (Nat → Int32)), lp (fB_Se_greatestOff_13 v0 v1 v2 r1) nL6 s2 = some q3 → vV x 5 0 0 (W_Se (z_g x) a0 o0 (s2.2.2.1) (s2.2.2.2.1) (s2.2.2.2.2.1) (r1.2.2.2.1) (r1.2.2.2.2.1) (r1.2.2.2.2.2) (s2.2.2.2.2.2.1) (s2.2.2.2.2.2.2.1) (s2.2.2.2.2.2.2.2.1) (s2.2.2.2.2.2.2.2.2.1) (s2.2.2.2.2.2.2.2.2.2.1) (s2.2.2.2.2.2.2.2.2.2.2) (gQu_ints (gSe_other v0)) (gQu_places (gSe_other v0)) (gQu_strengths (gSe_other v0)) ++ W_Qu (z_g x) a1 o1 (gQu_ints v1) (gQu_places v1) (gQu_strengths v1) ++ W_Sh (z_g x) a2 o2 (gSh_ints v2) (gSh_harm v2) (gLi_fast (gSh_lines v2)) (gLi_place (gSh_lines v2)) (gLi_post (gSh_lines v2)) (gLi_length (gSh_lines v2))) 13 [(0, .ref (a0 o0)), (1, .ref (a1 o1)), (2, .ref (a2 o2)), (3, .int (s2.1)), (4, .int (s2.2.1))] [] := by
    intro nL6
    induction nL6 with
    | zero => intro s2 hq; cases hq
    | succ nL6 ihL6 =>
      intro s2 hbL6
      rw [lp_succ, fB_Se_greatestOff_13] at hbL6
      refine r_iload C eX6_greatestOff_13 4 rfl ?_
      refine r_bipush C (v := 120) eX6_greatestOff_15 (by decide) ?_
      refine r_icmp_gt C eX6_greatestOff_17 (fun c7 => ?_) (fun c7 => ?_)
      · rw [if_pos c7] at hbL6
        obtain rfl := Option.some.inj hbL6
        refine r_sub (lv' := [(3, .int (s2.1))]) [3] rfl ?_
        exact J5
      · rw [if_neg c7] at hbL6
        refine r_aload_n C eX6_greatestOff_20 0 rfl rfl ?_
        refine r_get (v := .ref (a0 (o0 + 1))) C eX6_greatestOff_21 FX6_12 0 rfl rfl ?_
        refine r_get (v := .long (s2.2.2.2.1)) C eX6_greatestOff_24 FX6_32 1 rfl rfl ?_
        refine r_aload_n C eX6_greatestOff_27 2 rfl rfl ?_
        refine r_get (v := .long (gSh_harm v2)) C eX6_greatestOff_28 FX6_32 19 rfl rfl ?_
        refine r_lcmp_ne C eX6_greatestOff_31 eX6_greatestOff_32 (fun c8 => ?_) (fun c8 => ?_)
        · rw [if_neg c8] at hbL6
          obtain rfl := Option.some.inj hbL6
          refine r_sub (lv' := [(3, .int (s2.1))]) [3] rfl ?_
          exact J5
        · rw [if_pos c8] at hbL6
          refine r_aload_n C eX6_greatestOff_35 0 rfl rfl ?_
          refine r_aload_n C eX6_greatestOff_36 1 rfl rfl ?_
          obtain ⟨r9, hr9, hbL6⟩ := zbind hbL6
          refine r_V_z (ws' := W_Se (z_g x) a0 o0 (s2.2.2.1) (s2.2.2.2.1) (s2.2.2.2.2.1) (r1.2.2.2.1) (r1.2.2.2.2.1) (r1.2.2.2.2.2) (r9.2.1) (r9.2.2.1) (r9.2.2.2.1) (r9.2.2.2.2.1) (r9.2.2.2.2.2.1) (r9.2.2.2.2.2.2) (gQu_ints (gSe_other v0)) (gQu_places (gSe_other v0)) (gQu_strengths (gSe_other v0)) ++ W_Qu (z_g x) a1 o1 (gQu_ints v1) (gQu_places v1) (gQu_strengths v1) ++ W_Sh (z_g x) a2 o2 (gSh_ints v2) (gSh_harm v2) (gLi_fast (gSh_lines v2)) (gLi_place (gSh_lines v2)) (gLi_post (gSh_lines v2)) (gLi_length (gSh_lines v2))) C (c_Se_getsOff (z_l x) (z_g x) a0 o0 (((s2.2.2.1), (s2.2.2.2.1), ((s2.2.2.2.2.1), (r1.2.2.2.1), (r1.2.2.2.2.1), (r1.2.2.2.2.2))), ((s2.2.2.2.2.2.1), (s2.2.2.2.2.2.2.1), ((s2.2.2.2.2.2.2.2.1), (s2.2.2.2.2.2.2.2.2.1), (s2.2.2.2.2.2.2.2.2.2.1), (s2.2.2.2.2.2.2.2.2.2.2))), (gSe_other v0)) a1 o1 v1  r9 hr9) eX6_greatestOff_37 MX6_57 ⟨0, 6, _, _, rfl, rfl, rfl⟩ [0, 1, 2, 3, 4, 5, 6, 7, 8, 9, 10, 11, 12, 13, 14, 15, 16, 17, 18] rfl rfl rfl rfl [19, 20, 21, 22, 23, 24] rfl ⟨rfl, rfl, rfl, rfl, rfl, rfl, trivial⟩ 25 rfl rfl rfl rfl rfl rfl (fun zb10 => ?_)
          obtain ⟨w11, hw11, hbL6⟩ := zlet_of hbL6
          have J12 : vV x 5 0 0 (W_Se (z_g x) a0 o0 (s2.2.2.1) (s2.2.2.2.1) (s2.2.2.2.2.1) (r1.2.2.2.1) (r1.2.2.2.2.1) (r1.2.2.2.2.2) (r9.2.1) (r9.2.2.1) (r9.2.2.2.1) (r9.2.2.2.2.1) (r9.2.2.2.2.2.1) (r9.2.2.2.2.2.2) (gQu_ints (gSe_other v0)) (gQu_places (gSe_other v0)) (gQu_strengths (gSe_other v0)) ++ W_Qu (z_g x) a1 o1 (gQu_ints v1) (gQu_places v1) (gQu_strengths v1) ++ W_Sh (z_g x) a2 o2 (gSh_ints v2) (gSh_harm v2) (gLi_fast (gSh_lines v2)) (gLi_place (gSh_lines v2)) (gLi_post (gSh_lines v2)) (gLi_length (gSh_lines v2))) 46 [(0, .ref (a0 o0)), (1, .ref (a1 o1)), (2, .ref (a2 o2)), (3, .int w11), (4, .int (s2.2.1))] [] := by
            refine r_aload_n C eX6_greatestOff_46 0 rfl rfl ?_
            refine r_get (v := .ref (a0 (o0 + 1))) C eX6_greatestOff_47 FX6_12 0 rfl rfl ?_
            refine r_aload_n C eX6_greatestOff_50 1 rfl rfl ?_
            obtain ⟨r14, hr14, hbL6⟩ := zbind hbL6
            refine r_V_i (ws' := W_Se (z_g x) a0 o0 (r14.2.1) (r14.2.2.1) (r14.2.2.2) (r1.2.2.2.1) (r1.2.2.2.2.1) (r1.2.2.2.2.2) (r9.2.1) (r9.2.2.1) (r9.2.2.2.1) (r9.2.2.2.2.1) (r9.2.2.2.2.2.1) (r9.2.2.2.2.2.2) (gQu_ints (gSe_other v0)) (gQu_places (gSe_other v0)) (gQu_strengths (gSe_other v0)) ++ W_Qu (z_g x) a1 o1 (gQu_ints v1) (gQu_places v1) (gQu_strengths v1) ++ W_Sh (z_g x) a2 o2 (gSh_ints v2) (gSh_harm v2) (gLi_fast (gSh_lines v2)) (gLi_place (gSh_lines v2)) (gLi_post (gSh_lines v2)) (gLi_length (gSh_lines v2))) C (c_Sh_passSecond (z_l x) (z_g x) a0 (o0 + 1) ((s2.2.2.1), (s2.2.2.2.1), ((s2.2.2.2.2.1), (r1.2.2.2.1), (r1.2.2.2.2.1), (r1.2.2.2.2.2))) a1 o1 v1  r14 hr14) eX6_greatestOff_51 MX6_40 ⟨0, 7, _, _, rfl, rfl, rfl⟩ [1, 2, 3, 4, 5, 6, 16, 17, 18] rfl rfl rfl rfl [0, 7, 8, 9, 10, 11, 12, 13, 14, 15, 19, 20, 21, 22, 23, 24] rfl ⟨rfl, rfl, rfl, rfl, rfl, rfl, rfl, rfl, rfl, rfl, rfl, rfl, rfl, rfl, rfl, rfl, trivial⟩ 25 rfl rfl rfl rfl rfl rfl ?_
            refine r_pop C eX6_greatestOff_54 rfl ?_
            refine r_iinc C (v := ((s2.2.1) + 1)) [(4, .int ((s2.2.1) + 1)), (0, .ref (a0 o0)), (1, .ref (a1 o1)), (2, .ref (a2 o2)), (3, .int w11)] eX6_greatestOff_55 4 rfl rfl (by decide) rfl ?_
            refine r_goto C eX6_greatestOff_58 ?_
            refine r_sub (lv' := [(0, .ref (a0 o0)), (1, .ref (a1 o1)), (2, .ref (a2 o2)), (3, .int w11), (4, .int ((s2.2.1) + 1))]) [1, 2, 3, 4, 0] rfl ?_
            have hc := ihL6 (w11, ((s2.2.1) + 1), (r14.2.1), (r14.2.2.1), (r14.2.2.2), (r9.2.1), (r9.2.2.1), (r9.2.2.2.1), (r9.2.2.2.2.1), (r9.2.2.2.2.2.1), (r9.2.2.2.2.2.2)) hbL6
            exact hc
          refine r_if_eq C eX6_greatestOff_40 (fun c13 => ?_) (fun c13 => ?_)
          · rw [if_pos c13] at hw11
            subst hw11
            exact J12 
          · rw [if_neg c13] at hw11
            refine r_iload C eX6_greatestOff_43 4 rfl ?_
            refine r_istore_n C [(3, .int (s2.2.1)), (0, .ref (a0 o0)), (1, .ref (a1 o1)), (2, .ref (a2 o2)), (4, .int (s2.2.1))] eX6_greatestOff_45 rfl (by decide) rfl ?_
            subst hw11
            refine r_sub (lv' := [(0, .ref (a0 o0)), (1, .ref (a1 o1)), (2, .ref (a2 o2)), (3, .int (s2.2.1)), (4, .int (s2.2.1))]) [1, 2, 3, 0, 4] rfl ?_
            exact J12 
  refine r_sub (lv' := [(0, .ref (a0 o0)), (1, .ref (a1 o1)), (2, .ref (a2 o2)), (3, .int (-1)), (4, .int 0)]) [2, 3, 4, 1, 0] rfl ?_
  have hc := L6 LF ((-1), 0, (r1.1), (r1.2.1), (r1.2.2.1), (gSh_ints (gSe_probe v0)), (gSh_harm (gSe_probe v0)), (gLi_fast (gSh_lines (gSe_probe v0))), (gLi_place (gSh_lines (gSe_probe v0))), (gLi_post (gSh_lines (gSe_probe v0))), (gLi_length (gSh_lines (gSe_probe v0)))) h4
  exact hc
