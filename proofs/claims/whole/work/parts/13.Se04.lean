noncomputable def fB_Se_isSafeByPlan_other_15 (v0 : tSe) (v1 : tPl) (p1 : Int32) (ih : (Int32 × Int32 × (Nat → Int32) × Int64 × (Nat → Int32)) → Option (Int32 × Int32 × (Nat → Int32) × Int64 × (Nat → Int32))) (s1 : Int32 × Int32 × (Nat → Int32) × Int64 × (Nat → Int32)) : Option (Int32 × Int32 × (Nat → Int32) × Int64 × (Nat → Int32)) := (if p1 ≤ (s1.2.1) then (some ((s1.1), (s1.2.1), (s1.2.2.1), (s1.2.2.2.1), (s1.2.2.2.2))) else (if (s1.2.2.2.1) = (gSh_harm (gSe_probe v0)) then (Option.bind (f_Pl_steer v1 ((s1.2.2.1), (s1.2.2.2.1), ((s1.2.2.2.2), (gLi_place (gSh_lines (gSe_probe v0))), (gLi_post (gSh_lines (gSe_probe v0))), (gLi_length (gSh_lines (gSe_probe v0))))) (s1.1) (s1.2.1)) (fun (r8 : Int32 × (Nat → Int32)) => (Option.bind (f_Sh_passSecond ((r8.2), (s1.2.2.2.1), ((s1.2.2.2.2), (gLi_place (gSh_lines (gSe_probe v0))), (gLi_post (gSh_lines (gSe_probe v0))), (gLi_length (gSh_lines (gSe_probe v0))))) (gSe_other v0)) (fun (r9 : Int32 × (Nat → Int32) × Int64 × (Nat → Int32)) => (ih ((r8.1), ((s1.2.1) + 1), (r9.2.1), (r9.2.2.1), (r9.2.2.2))))))) else (some ((s1.1), (s1.2.1), (s1.2.2.1), (s1.2.2.2.1), (s1.2.2.2.2)))))
noncomputable def f_Se_isSafeByPlan_other (v0 : tSe) (v1 : tPl) (p1 : Int32) : Option (Int32 × (Nat → Int32) × Int64 × (Nat → Int32)) := (Option.bind (lp (fB_Se_isSafeByPlan_other_15 v0 v1 p1) LF (0, 0, (gSh_ints (gSe_probe v0)), (gSh_harm (gSe_probe v0)), (gLi_fast (gSh_lines (gSe_probe v0))))) (fun (q2 : Int32 × Int32 × (Nat → Int32) × Int64 × (Nat → Int32)) => (if (q2.2.2.2.1) = (gSh_harm (gSe_probe v0)) then (if (f_Sh_isSafe ((q2.2.2.1), (q2.2.2.2.1), ((q2.2.2.2.2), (gLi_place (gSh_lines (gSe_probe v0))), (gLi_post (gSh_lines (gSe_probe v0))), (gLi_length (gSh_lines (gSe_probe v0))))) (gSe_other v0)) = 0 then (some (0, (q2.2.2.1), (q2.2.2.2.1), (q2.2.2.2.2))) else (some (1, (q2.2.2.1), (q2.2.2.2.1), (q2.2.2.2.2)))) else (some (0, (q2.2.2.1), (q2.2.2.2.1), (q2.2.2.2.2))))))
abbrev rm_Se_isSafeByPlan_other : Room := { frames := 4, cells := 0, slots := 0, locals := 102 }
set_option maxHeartbeats 4000000 in
set_option maxRecDepth 100000 in
theorem c_Se_isSafeByPlan_other (l : Launch) (g : zGl) (a0 : Nat → Nat) (o0 : Nat) (v0 : tSe) (a1 : Nat → Nat) (o1 : Nat) (v1 : tPl) (p1 : Int32) (out : Int32 × (Nat → Int32) × Int64 × (Nat → Int32)) (hf : f_Se_isSafeByPlan_other v0 v1 p1 = some out) : zMz l yX6_isSafeByPlan cX6_isSafeByPlan 8 rm_Se_isSafeByPlan_other g [.ref (a0 o0), .ref (a0 (o0 + 13)), .ref (a1 o1), .int p1] (W_Se g a0 o0 (gSh_ints (gSe_base v0)) (gSh_harm (gSe_base v0)) (gLi_fast (gSh_lines (gSe_base v0))) (gLi_place (gSh_lines (gSe_base v0))) (gLi_post (gSh_lines (gSe_base v0))) (gLi_length (gSh_lines (gSe_base v0))) (gSh_ints (gSe_probe v0)) (gSh_harm (gSe_probe v0)) (gLi_fast (gSh_lines (gSe_probe v0))) (gLi_place (gSh_lines (gSe_probe v0))) (gLi_post (gSh_lines (gSe_probe v0))) (gLi_length (gSh_lines (gSe_probe v0))) (gQu_ints (gSe_other v0)) (gQu_places (gSe_other v0)) (gQu_strengths (gSe_other v0)) ++ W_Pl g a1 o1 (gPl_ints v1) (gPl_seconds v1) (gPl_engines v1) (gPl_wheels v1)) (out.1) (W_Se g a0 o0 (gSh_ints (gSe_base v0)) (gSh_harm (gSe_base v0)) (gLi_fast (gSh_lines (gSe_base v0))) (gLi_place (gSh_lines (gSe_base v0))) (gLi_post (gSh_lines (gSe_base v0))) (gLi_length (gSh_lines (gSe_base v0))) (out.2.1) (out.2.2.1) (out.2.2.2) (gLi_place (gSh_lines (gSe_probe v0))) (gLi_post (gSh_lines (gSe_probe v0))) (gLi_length (gSh_lines (gSe_probe v0))) (gQu_ints (gSe_other v0)) (gQu_places (gSe_other v0)) (gQu_strengths (gSe_other v0)) ++ W_Pl g a1 o1 (gPl_ints v1) (gPl_seconds v1) (gPl_engines v1) (gPl_wheels v1)) := by
  refine zMz_of (lv := [(0, .ref (a0 o0)), (1, .ref (a0 (o0 + 13))), (2, .ref (a1 o1)), (3, .int p1)]) (by decide) (Nat.le_of_ble_eq_true rfl) rfl (fun x hl hg C hret => ?_)
  subst hl; subst hg
  rw [f_Se_isSafeByPlan_other] at hf
  refine r_aload_n C eX6_isSafeByPlan_0 0 rfl rfl ?_
  refine r_get (v := .ref (a0 (o0 + 7))) C eX6_isSafeByPlan_1 FX6_18 0 rfl rfl ?_
  refine r_get (v := .long (gSh_harm (gSe_probe v0))) C eX6_isSafeByPlan_4 FX6_32 7 rfl rfl ?_
  refine r_lstore C [(4, .long (gSh_harm (gSe_probe v0))), (0, .ref (a0 o0)), (1, .ref (a0 (o0 + 13))), (2, .ref (a1 o1)), (3, .int p1)] eX6_isSafeByPlan_7 (by decide) rfl ?_
  refine r_iconst C (v := 0) eX6_isSafeByPlan_9 (by decide) ?_
  refine r_istore C [(6, .int 0), (4, .long (gSh_harm (gSe_probe v0))), (0, .ref (a0 o0)), (1, .ref (a0 (o0 + 13))), (2, .ref (a1 o1)), (3, .int p1)] eX6_isSafeByPlan_10 (by decide) rfl ?_
  refine r_iconst C (v := 0) eX6_isSafeByPlan_12 (by decide) ?_
  refine r_istore C [(7, .int 0), (6, .int 0), (4, .long (gSh_harm (gSe_probe v0))), (0, .ref (a0 o0)), (1, .ref (a0 (o0 + 13))), (2, .ref (a1 o1)), (3, .int p1)] eX6_isSafeByPlan_13 (by decide) rfl ?_
  obtain ⟨q2, h3, hf⟩ := zbind hf
  have J4 : vV x 8 0 0 (W_Se (z_g x) a0 o0 (gSh_ints (gSe_base v0)) (gSh_harm (gSe_base v0)) (gLi_fast (gSh_lines (gSe_base v0))) (gLi_place (gSh_lines (gSe_base v0))) (gLi_post (gSh_lines (gSe_base v0))) (gLi_length (gSh_lines (gSe_base v0))) (q2.2.2.1) (q2.2.2.2.1) (q2.2.2.2.2) (gLi_place (gSh_lines (gSe_probe v0))) (gLi_post (gSh_lines (gSe_probe v0))) (gLi_length (gSh_lines (gSe_probe v0))) (gQu_ints (gSe_other v0)) (gQu_places (gSe_other v0)) (gQu_strengths (gSe_other v0)) ++ W_Pl (z_g x) a1 o1 (gPl_ints v1) (gPl_seconds v1) (gPl_engines v1) (gPl_wheels v1)) 63 [(0, .ref (a0 o0)), (1, .ref (a0 (o0 + 13))), (4, .long (gSh_harm (gSe_probe v0)))] [] := by
    refine r_aload_n C eX6_isSafeByPlan_63 0 rfl rfl ?_
    refine r_get (v := .ref (a0 (o0 + 7))) C eX6_isSafeByPlan_64 FX6_18 0 rfl rfl ?_
    refine r_get (v := .long (q2.2.2.2.1)) C eX6_isSafeByPlan_67 FX6_32 7 rfl rfl ?_
    refine r_lload C eX6_isSafeByPlan_70 2 rfl ?_
    refine r_lcmp_ne C eX6_isSafeByPlan_72 eX6_isSafeByPlan_73 (fun c10 => ?_) (fun c10 => ?_)
    · rw [if_neg c10] at hf
      refine r_iconst C (v := 0) eX6_isSafeByPlan_91 (by decide) ?_
      obtain rfl := Option.some.inj (show some ((0, (q2.2.2.1), (q2.2.2.2.1), (q2.2.2.2.2)) : Int32 × (Nat → Int32) × Int64 × (Nat → Int32)) = some _ from hf)
      exact hret _ _ _ eX6_isSafeByPlan_92 zB0
    · rw [if_pos c10] at hf
      refine r_aload_n C eX6_isSafeByPlan_76 0 rfl rfl ?_
      refine r_get (v := .ref (a0 (o0 + 7))) C eX6_isSafeByPlan_77 FX6_18 0 rfl rfl ?_
      refine r_aload_n C eX6_isSafeByPlan_80 1 rfl rfl ?_
      refine r_V_z (ws' := W_Se (z_g x) a0 o0 (gSh_ints (gSe_base v0)) (gSh_harm (gSe_base v0)) (gLi_fast (gSh_lines (gSe_base v0))) (gLi_place (gSh_lines (gSe_base v0))) (gLi_post (gSh_lines (gSe_base v0))) (gLi_length (gSh_lines (gSe_base v0))) (q2.2.2.1) (q2.2.2.2.1) (q2.2.2.2.2) (gLi_place (gSh_lines (gSe_probe v0))) (gLi_post (gSh_lines (gSe_probe v0))) (gLi_length (gSh_lines (gSe_probe v0))) (gQu_ints (gSe_other v0)) (gQu_places (gSe_other v0)) (gQu_strengths (gSe_other v0)) ++ W_Pl (z_g x) a1 o1 (gPl_ints v1) (gPl_seconds v1) (gPl_engines v1) (gPl_wheels v1)) C (c_Sh_isSafe (z_l x) (z_g x) a0 (o0 + 7) ((q2.2.2.1), (q2.2.2.2.1), ((q2.2.2.2.2), (gLi_place (gSh_lines (gSe_probe v0))), (gLi_post (gSh_lines (gSe_probe v0))), (gLi_length (gSh_lines (gSe_probe v0))))) a0 (o0 + 13) (gSe_other v0)  _ rfl) eX6_isSafeByPlan_81 MX6_54 ⟨0, 7, _, _, rfl, rfl, rfl⟩ [7, 8, 9, 10, 11, 12, 13, 14, 15] rfl rfl rfl rfl [0, 1, 2, 3, 4, 5, 6, 16, 17, 18, 19] rfl ⟨rfl, rfl, rfl, rfl, rfl, rfl, rfl, rfl, rfl, rfl, rfl, trivial⟩ 20 rfl rfl rfl rfl rfl rfl (fun zb11 => ?_)
      refine r_if_eq C eX6_isSafeByPlan_84 (fun c12 => ?_) (fun c12 => ?_)
      · rw [if_pos c12] at hf
        refine r_iconst C (v := 0) eX6_isSafeByPlan_91 (by decide) ?_
        obtain rfl := Option.some.inj (show some ((0, (q2.2.2.1), (q2.2.2.2.1), (q2.2.2.2.2)) : Int32 × (Nat → Int32) × Int64 × (Nat → Int32)) = some _ from hf)
        exact hret _ _ _ eX6_isSafeByPlan_92 zB0
      · rw [if_neg c12] at hf
        refine r_iconst C (v := 1) eX6_isSafeByPlan_87 (by decide) ?_
        refine r_goto C eX6_isSafeByPlan_88 ?_
        obtain rfl := Option.some.inj (show some ((1, (q2.2.2.1), (q2.2.2.2.1), (q2.2.2.2.2)) : Int32 × (Nat → Int32) × Int64 × (Nat → Int32)) = some _ from hf)
        exact hret _ _ _ eX6_isSafeByPlan_92 zB1
  have L5 : ∀ (nL5 : Nat) (s1 : Int32 × Int32 × (Nat → Int32) × Int64 × (Nat → Int32)), lp (fB_Se_isSafeByPlan_other_15 v0 v1 p1) nL5 s1 = some q2 → vV x 8 0 0 (W_Se (z_g x) a0 o0 (gSh_ints (gSe_base v0)) (gSh_harm (gSe_base v0)) (gLi_fast (gSh_lines (gSe_base v0))) (gLi_place (gSh_lines (gSe_base v0))) (gLi_post (gSh_lines (gSe_base v0))) (gLi_length (gSh_lines (gSe_base v0))) (s1.2.2.1) (s1.2.2.2.1) (s1.2.2.2.2) (gLi_place (gSh_lines (gSe_probe v0))) (gLi_post (gSh_lines (gSe_probe v0))) (gLi_length (gSh_lines (gSe_probe v0))) (gQu_ints (gSe_other v0)) (gQu_places (gSe_other v0)) (gQu_strengths (gSe_other v0)) ++ W_Pl (z_g x) a1 o1 (gPl_ints v1) (gPl_seconds v1) (gPl_engines v1) (gPl_wheels v1)) 15 [(0, .ref (a0 o0)), (1, .ref (a0 (o0 + 13))), (2, .ref (a1 o1)), (3, .int p1), (4, .long (gSh_harm (gSe_probe v0))), (6, .int (s1.1)), (7, .int (s1.2.1))] [] := by
    intro nL5
    induction nL5 with
    | zero => intro s1 hq; cases hq
    | succ nL5 ihL5 =>
      intro s1 hbL5
      rw [lp_succ, fB_Se_isSafeByPlan_other_15] at hbL5
      refine r_iload C eX6_isSafeByPlan_15 6 rfl ?_
      refine r_iload_n C eX6_isSafeByPlan_17 3 rfl rfl ?_
      refine r_icmp_ge C eX6_isSafeByPlan_18 (fun c6 => ?_) (fun c6 => ?_)
      · rw [if_pos c6] at hbL5
        obtain rfl := Option.some.inj hbL5
        refine r_sub (lv' := [(0, .ref (a0 o0)), (1, .ref (a0 (o0 + 13))), (4, .long (gSh_harm (gSe_probe v0)))]) [0, 1, 4] rfl ?_
        exact J4
      · rw [if_neg c6] at hbL5
        refine r_aload_n C eX6_isSafeByPlan_21 0 rfl rfl ?_
        refine r_get (v := .ref (a0 (o0 + 7))) C eX6_isSafeByPlan_22 FX6_18 0 rfl rfl ?_
        refine r_get (v := .long (s1.2.2.2.1)) C eX6_isSafeByPlan_25 FX6_32 7 rfl rfl ?_
        refine r_lload C eX6_isSafeByPlan_28 4 rfl ?_
        refine r_lcmp_ne C eX6_isSafeByPlan_30 eX6_isSafeByPlan_31 (fun c7 => ?_) (fun c7 => ?_)
        · rw [if_neg c7] at hbL5
          obtain rfl := Option.some.inj hbL5
          refine r_sub (lv' := [(0, .ref (a0 o0)), (1, .ref (a0 (o0 + 13))), (4, .long (gSh_harm (gSe_probe v0)))]) [0, 1, 4] rfl ?_
          exact J4
        · rw [if_pos c7] at hbL5
          refine r_aload_n C eX6_isSafeByPlan_34 2 rfl rfl ?_
          refine r_aload_n C eX6_isSafeByPlan_35 0 rfl rfl ?_
          refine r_get (v := .ref (a0 (o0 + 7))) C eX6_isSafeByPlan_36 FX6_18 0 rfl rfl ?_
          refine r_iload C eX6_isSafeByPlan_39 5 rfl ?_
          refine r_iload C eX6_isSafeByPlan_41 6 rfl ?_
          obtain ⟨r8, hr8, hbL5⟩ := zbind hbL5
          refine r_V_i (ws' := W_Se (z_g x) a0 o0 (gSh_ints (gSe_base v0)) (gSh_harm (gSe_base v0)) (gLi_fast (gSh_lines (gSe_base v0))) (gLi_place (gSh_lines (gSe_base v0))) (gLi_post (gSh_lines (gSe_base v0))) (gLi_length (gSh_lines (gSe_base v0))) (r8.2) (s1.2.2.2.1) (s1.2.2.2.2) (gLi_place (gSh_lines (gSe_probe v0))) (gLi_post (gSh_lines (gSe_probe v0))) (gLi_length (gSh_lines (gSe_probe v0))) (gQu_ints (gSe_other v0)) (gQu_places (gSe_other v0)) (gQu_strengths (gSe_other v0)) ++ W_Pl (z_g x) a1 o1 (gPl_ints v1) (gPl_seconds v1) (gPl_engines v1) (gPl_wheels v1)) C (c_Pl_steer (z_l x) (z_g x) a1 o1 v1 a0 (o0 + 7) ((s1.2.2.1), (s1.2.2.2.1), ((s1.2.2.2.2), (gLi_place (gSh_lines (gSe_probe v0))), (gLi_post (gSh_lines (gSe_probe v0))), (gLi_length (gSh_lines (gSe_probe v0))))) (s1.1) (s1.2.1) r8 hr8) eX6_isSafeByPlan_43 MX6_79 ⟨0, 3, _, _, rfl, rfl, rfl⟩ [16, 17, 18, 19, 7, 8, 9, 10, 11, 12] rfl rfl rfl rfl [0, 1, 2, 3, 4, 5, 6, 13, 14, 15] rfl ⟨rfl, rfl, rfl, rfl, rfl, rfl, rfl, rfl, rfl, rfl, trivial⟩ 20 rfl rfl rfl rfl rfl rfl ?_
          refine r_istore C [(6, .int (r8.1)), (0, .ref (a0 o0)), (1, .ref (a0 (o0 + 13))), (2, .ref (a1 o1)), (3, .int p1), (4, .long (gSh_harm (gSe_probe v0))), (7, .int (s1.2.1))] eX6_isSafeByPlan_46 (by decide) rfl ?_
          refine r_aload_n C eX6_isSafeByPlan_48 1 rfl rfl ?_
          refine r_get (v := .ref (a0 (o0 + 7))) C eX6_isSafeByPlan_49 FX6_18 0 rfl rfl ?_
          refine r_aload_n C eX6_isSafeByPlan_52 2 rfl rfl ?_
          obtain ⟨r9, hr9, hbL5⟩ := zbind hbL5
          refine r_V_i (ws' := W_Se (z_g x) a0 o0 (gSh_ints (gSe_base v0)) (gSh_harm (gSe_base v0)) (gLi_fast (gSh_lines (gSe_base v0))) (gLi_place (gSh_lines (gSe_base v0))) (gLi_post (gSh_lines (gSe_base v0))) (gLi_length (gSh_lines (gSe_base v0))) (r9.2.1) (r9.2.2.1) (r9.2.2.2) (gLi_place (gSh_lines (gSe_probe v0))) (gLi_post (gSh_lines (gSe_probe v0))) (gLi_length (gSh_lines (gSe_probe v0))) (gQu_ints (gSe_other v0)) (gQu_places (gSe_other v0)) (gQu_strengths (gSe_other v0)) ++ W_Pl (z_g x) a1 o1 (gPl_ints v1) (gPl_seconds v1) (gPl_engines v1) (gPl_wheels v1)) C (c_Sh_passSecond (z_l x) (z_g x) a0 (o0 + 7) ((r8.2), (s1.2.2.2.1), ((s1.2.2.2.2), (gLi_place (gSh_lines (gSe_probe v0))), (gLi_post (gSh_lines (gSe_probe v0))), (gLi_length (gSh_lines (gSe_probe v0))))) a0 (o0 + 13) (gSe_other v0)  r9 hr9) eX6_isSafeByPlan_53 MX6_40 ⟨0, 7, _, _, rfl, rfl, rfl⟩ [7, 8, 9, 10, 11, 12, 13, 14, 15] rfl rfl rfl rfl [0, 1, 2, 3, 4, 5, 6, 16, 17, 18, 19] rfl ⟨rfl, rfl, rfl, rfl, rfl, rfl, rfl, rfl, rfl, rfl, rfl, trivial⟩ 20 rfl rfl rfl rfl rfl rfl ?_
          refine r_pop C eX6_isSafeByPlan_56 rfl ?_
          refine r_iinc C (v := ((s1.2.1) + 1)) [(7, .int ((s1.2.1) + 1)), (6, .int (r8.1)), (0, .ref (a0 o0)), (1, .ref (a0 (o0 + 13))), (2, .ref (a1 o1)), (3, .int p1), (4, .long (gSh_harm (gSe_probe v0)))] eX6_isSafeByPlan_57 6 rfl rfl (by decide) rfl ?_
          refine r_goto C eX6_isSafeByPlan_60 ?_
          refine r_sub (lv' := [(0, .ref (a0 o0)), (1, .ref (a0 (o0 + 13))), (2, .ref (a1 o1)), (3, .int p1), (4, .long (gSh_harm (gSe_probe v0))), (6, .int (r8.1)), (7, .int ((s1.2.1) + 1))]) [2, 3, 4, 5, 6, 1, 0] rfl ?_
          have hc := ihL5 ((r8.1), ((s1.2.1) + 1), (r9.2.1), (r9.2.2.1), (r9.2.2.2)) hbL5
          exact hc
  refine r_sub (lv' := [(0, .ref (a0 o0)), (1, .ref (a0 (o0 + 13))), (2, .ref (a1 o1)), (3, .int p1), (4, .long (gSh_harm (gSe_probe v0))), (6, .int 0), (7, .int 0)]) [3, 4, 5, 6, 2, 1, 0] rfl ?_
  have hc := L5 LF (0, 0, (gSh_ints (gSe_probe v0)), (gSh_harm (gSe_probe v0)), (gLi_fast (gSh_lines (gSe_probe v0)))) h3
  exact hc
