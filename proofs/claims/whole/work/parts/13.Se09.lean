theorem eX6_leastTug_0 : zd 1 cX6_leastTug 0 1 (.iconst 0) := ⟨by decide +kernel, rfl⟩
theorem eX6_leastTug_1 : zd 2 cX6_leastTug 1 3 (.istore 5) := ⟨by decide +kernel, rfl⟩
theorem eX6_leastTug_3 : zd 2 cX6_leastTug 3 5 (.iload 5) := ⟨by decide +kernel, rfl⟩
theorem eX6_leastTug_5 : zd 2 cX6_leastTug 5 7 (.bipush 99) := ⟨by decide +kernel, rfl⟩
theorem eX6_leastTug_7 : zdi cX6_leastTug 7 10 47 (.if_icmp .gt) := ⟨40, by decide +kernel, rfl, by decide⟩
theorem eX6_leastTug_10 : zd 1 cX6_leastTug 10 11 (.aload_n 0) := ⟨by decide +kernel, rfl⟩
theorem eX6_leastTug_11 : zd 3 cX6_leastTug 11 14 (.getfield 18) := ⟨by decide +kernel, rfl⟩
theorem eX6_leastTug_14 : zd 1 cX6_leastTug 14 15 (.aload_n 2) := ⟨by decide +kernel, rfl⟩
theorem eX6_leastTug_15 : zd 3 cX6_leastTug 15 18 (.invokevirtual 28) := ⟨by decide +kernel, rfl⟩
theorem eX6_leastTug_18 : zd 1 cX6_leastTug 18 19 (.aload_n 0) := ⟨by decide +kernel, rfl⟩
theorem eX6_leastTug_19 : zd 3 cX6_leastTug 19 22 (.getfield 18) := ⟨by decide +kernel, rfl⟩
theorem eX6_leastTug_22 : zd 2 cX6_leastTug 22 24 (.iload 5) := ⟨by decide +kernel, rfl⟩
theorem eX6_leastTug_24 : zd 3 cX6_leastTug 24 27 (.putfield 76) := ⟨by decide +kernel, rfl⟩
theorem eX6_leastTug_27 : zd 1 cX6_leastTug 27 28 (.aload_n 0) := ⟨by decide +kernel, rfl⟩
theorem eX6_leastTug_28 : zd 1 cX6_leastTug 28 29 (.aload_n 1) := ⟨by decide +kernel, rfl⟩
theorem eX6_leastTug_29 : zd 1 cX6_leastTug 29 30 (.aload_n 3) := ⟨by decide +kernel, rfl⟩
theorem eX6_leastTug_30 : zd 2 cX6_leastTug 30 32 (.iload 4) := ⟨by decide +kernel, rfl⟩
theorem eX6_leastTug_32 : zd 3 cX6_leastTug 32 35 (.invokevirtual 66) := ⟨by decide +kernel, rfl⟩
theorem eX6_leastTug_35 : zdi cX6_leastTug 35 38 41 (.ifCond .eq) := ⟨6, by decide +kernel, rfl, by decide⟩
theorem eX6_leastTug_38 : zd 2 cX6_leastTug 38 40 (.iload 5) := ⟨by decide +kernel, rfl⟩
theorem eX6_leastTug_40 : zd 1 cX6_leastTug 40 41 (.ireturn) := ⟨by decide +kernel, rfl⟩
theorem eX6_leastTug_41 : zd 3 cX6_leastTug 41 44 (.iinc 5 1) := ⟨by decide +kernel, rfl⟩
theorem eX6_leastTug_44 : zdi cX6_leastTug 44 47 3 (.goto) := ⟨(-41), by decide +kernel, rfl, by decide⟩
theorem eX6_leastTug_47 : zd 1 cX6_leastTug 47 48 (.iconst (-1)) := ⟨by decide +kernel, rfl⟩
theorem eX6_leastTug_48 : zd 1 cX6_leastTug 48 49 (.ireturn) := ⟨by decide +kernel, rfl⟩
theorem PX6_76 : zlP RX6 76 7 8 .int := ⟨(RX7, TX7, 18), tyX7, rfl, by decide, q246, zin7, tyX7_ok, nmX7, rfl, by decide +kernel⟩
noncomputable def fB_Se_leastTug_3 (v0 : tSe) (v1 : tQu) (v2 : tSh) (v3 : tPl) (p1 : Int32) (ih : (Int32 × (Nat → Int32) × Int64 × (Nat → Int32) × (Nat → Int32) × (Nat → Int32) × (Nat → Int32)) → Option ((Int32 × (Nat → Int32) × Int64 × (Nat → Int32) × (Nat → Int32) × (Nat → Int32) × (Nat → Int32)) ⊕ (Int32 × (Nat → Int32) × Int64 × (Nat → Int32) × (Nat → Int32) × (Nat → Int32) × (Nat → Int32)))) (s1 : Int32 × (Nat → Int32) × Int64 × (Nat → Int32) × (Nat → Int32) × (Nat → Int32) × (Nat → Int32)) : Option ((Int32 × (Nat → Int32) × Int64 × (Nat → Int32) × (Nat → Int32) × (Nat → Int32) × (Nat → Int32)) ⊕ (Int32 × (Nat → Int32) × Int64 × (Nat → Int32) × (Nat → Int32) × (Nat → Int32) × (Nat → Int32))) := (if 99 < (s1.1) then (some (Sum.inr ((s1.1), (s1.2.1), (s1.2.2.1), (s1.2.2.2.1), (s1.2.2.2.2.1), (s1.2.2.2.2.2.1), (s1.2.2.2.2.2.2)))) else (Option.bind (f_Sh_copyFrom ((s1.2.1), (s1.2.2.1), ((s1.2.2.2.1), (s1.2.2.2.2.1), (s1.2.2.2.2.2.1), (s1.2.2.2.2.2.2))) v2) (fun (r7 : (Nat → Int32) × Int64 × (Nat → Int32) × (Nat → Int32) × (Nat → Int32) × (Nat → Int32)) => (Option.bind (f_Se_isSafeByPlan ((gSe_base v0), ((upd (r7.1) 8 (s1.1)), (r7.2.1), ((r7.2.2.1), (r7.2.2.2.1), (r7.2.2.2.2.1), (r7.2.2.2.2.2))), (gSe_other v0)) v1 v3 p1) (fun (r8 : Int32 × (Nat → Int32) × Int64 × (Nat → Int32)) => (if (r8.1) = 0 then (ih (((s1.1) + 1), (r8.2.1), (r8.2.2.1), (r8.2.2.2), (r7.2.2.2.1), (r7.2.2.2.2.1), (r7.2.2.2.2.2))) else (some (Sum.inl ((s1.1), (r8.2.1), (r8.2.2.1), (r8.2.2.2), (r7.2.2.2.1), (r7.2.2.2.2.1), (r7.2.2.2.2.2))))))))))
noncomputable def f_Se_leastTug (v0 : tSe) (v1 : tQu) (v2 : tSh) (v3 : tPl) (p1 : Int32) : Option (Int32 × (Nat → Int32) × Int64 × (Nat → Int32) × (Nat → Int32) × (Nat → Int32) × (Nat → Int32)) := (Option.bind (lp (fB_Se_leastTug_3 v0 v1 v2 v3 p1) LF (0, (gSh_ints (gSe_probe v0)), (gSh_harm (gSe_probe v0)), (gLi_fast (gSh_lines (gSe_probe v0))), (gLi_place (gSh_lines (gSe_probe v0))), (gLi_post (gSh_lines (gSe_probe v0))), (gLi_length (gSh_lines (gSe_probe v0))))) (fun (q2 : (Int32 × (Nat → Int32) × Int64 × (Nat → Int32) × (Nat → Int32) × (Nat → Int32) × (Nat → Int32)) ⊕ (Int32 × (Nat → Int32) × Int64 × (Nat → Int32) × (Nat → Int32) × (Nat → Int32) × (Nat → Int32))) => Sum.elim (fun r => (some r)) (fun (s1e : Int32 × (Nat → Int32) × Int64 × (Nat → Int32) × (Nat → Int32) × (Nat → Int32) × (Nat → Int32)) => (some ((-1), (s1e.2.1), (s1e.2.2.1), (s1e.2.2.2.1), (s1e.2.2.2.2.1), (s1e.2.2.2.2.2.1), (s1e.2.2.2.2.2.2)))) q2))
abbrev rm_Se_leastTug : Room := { frames := 5, cells := 0, slots := 0, locals := 129 }
set_option maxHeartbeats 4000000 in
set_option maxRecDepth 100000 in
theorem c_Se_leastTug (l : Launch) (g : zGl) (a0 : Nat → Nat) (o0 : Nat) (v0 : tSe) (a1 : Nat → Nat) (o1 : Nat) (v1 : tQu) (a2 : Nat → Nat) (o2 : Nat) (v2 : tSh) (a3 : Nat → Nat) (o3 : Nat) (v3 : tPl) (p1 : Int32) (out : Int32 × (Nat → Int32) × Int64 × (Nat → Int32) × (Nat → Int32) × (Nat → Int32) × (Nat → Int32)) (hf : f_Se_leastTug v0 v1 v2 v3 p1 = some out) : zMi l yX6_leastTug cX6_leastTug 6 rm_Se_leastTug g [.ref (a0 o0), .ref (a1 o1), .ref (a2 o2), .ref (a3 o3), .int p1] (W_Se g a0 o0 (gSh_ints (gSe_base v0)) (gSh_harm (gSe_base v0)) (gLi_fast (gSh_lines (gSe_base v0))) (gLi_place (gSh_lines (gSe_base v0))) (gLi_post (gSh_lines (gSe_base v0))) (gLi_length (gSh_lines (gSe_base v0))) (gSh_ints (gSe_probe v0)) (gSh_harm (gSe_probe v0)) (gLi_fast (gSh_lines (gSe_probe v0))) (gLi_place (gSh_lines (gSe_probe v0))) (gLi_post (gSh_lines (gSe_probe v0))) (gLi_length (gSh_lines (gSe_probe v0))) (gQu_ints (gSe_other v0)) (gQu_places (gSe_other v0)) (gQu_strengths (gSe_other v0)) ++ W_Qu g a1 o1 (gQu_ints v1) (gQu_places v1) (gQu_strengths v1) ++ W_Sh g a2 o2 (gSh_ints v2) (gSh_harm v2) (gLi_fast (gSh_lines v2)) (gLi_place (gSh_lines v2)) (gLi_post (gSh_lines v2)) (gLi_length (gSh_lines v2)) ++ W_Pl g a3 o3 (gPl_ints v3) (gPl_seconds v3) (gPl_engines v3) (gPl_wheels v3)) (out.1) (W_Se g a0 o0 (gSh_ints (gSe_base v0)) (gSh_harm (gSe_base v0)) (gLi_fast (gSh_lines (gSe_base v0))) (gLi_place (gSh_lines (gSe_base v0))) (gLi_post (gSh_lines (gSe_base v0))) (gLi_length (gSh_lines (gSe_base v0))) (out.2.1) (out.2.2.1) (out.2.2.2.1) (out.2.2.2.2.1) (out.2.2.2.2.2.1) (out.2.2.2.2.2.2) (gQu_ints (gSe_other v0)) (gQu_places (gSe_other v0)) (gQu_strengths (gSe_other v0)) ++ W_Qu g a1 o1 (gQu_ints v1) (gQu_places v1) (gQu_strengths v1) ++ W_Sh g a2 o2 (gSh_ints v2) (gSh_harm v2) (gLi_fast (gSh_lines v2)) (gLi_place (gSh_lines v2)) (gLi_post (gSh_lines v2)) (gLi_length (gSh_lines v2)) ++ W_Pl g a3 o3 (gPl_ints v3) (gPl_seconds v3) (gPl_engines v3) (gPl_wheels v3)) := by
  refine zMi_of (lv := [(0, .ref (a0 o0)), (1, .ref (a1 o1)), (2, .ref (a2 o2)), (3, .ref (a3 o3)), (4, .int p1)]) (by decide) (Nat.le_of_ble_eq_true rfl) rfl (fun x hl hg C hret => ?_)
  subst hl; subst hg
  rw [f_Se_leastTug] at hf
  refine r_iconst C (v := 0) eX6_leastTug_0 (by decide) ?_
  refine r_istore C [(5, .int 0), (0, .ref (a0 o0)), (1, .ref (a1 o1)), (2, .ref (a2 o2)), (3, .ref (a3 o3)), (4, .int p1)] eX6_leastTug_1 (by decide) rfl ?_
  obtain ⟨q2, h3, hf⟩ := zbind hf
  have J4 : ∀ s1e : Int32 × (Nat → Int32) × Int64 × (Nat → Int32) × (Nat → Int32) × (Nat → Int32) × (Nat → Int32), q2 = Sum.inr s1e → vV x 6 0 0 (W_Se (z_g x) a0 o0 (gSh_ints (gSe_base v0)) (gSh_harm (gSe_base v0)) (gLi_fast (gSh_lines (gSe_base v0))) (gLi_place (gSh_lines (gSe_base v0))) (gLi_post (gSh_lines (gSe_base v0))) (gLi_length (gSh_lines (gSe_base v0))) (s1e.2.1) (s1e.2.2.1) (s1e.2.2.2.1) (s1e.2.2.2.2.1) (s1e.2.2.2.2.2.1) (s1e.2.2.2.2.2.2) (gQu_ints (gSe_other v0)) (gQu_places (gSe_other v0)) (gQu_strengths (gSe_other v0)) ++ W_Qu (z_g x) a1 o1 (gQu_ints v1) (gQu_places v1) (gQu_strengths v1) ++ W_Sh (z_g x) a2 o2 (gSh_ints v2) (gSh_harm v2) (gLi_fast (gSh_lines v2)) (gLi_place (gSh_lines v2)) (gLi_post (gSh_lines v2)) (gLi_length (gSh_lines v2)) ++ W_Pl (z_g x) a3 o3 (gPl_ints v3) (gPl_seconds v3) (gPl_engines v3) (gPl_wheels v3)) 47 [] [] := by
    intro s1e hs
    subst hs
    rw [Sum.elim_inr] at hf
    refine r_iconst C (v := (-1)) eX6_leastTug_47 (by decide) ?_
    obtain rfl := Option.some.inj (show some (((-1), (s1e.2.1), (s1e.2.2.1), (s1e.2.2.2.1), (s1e.2.2.2.2.1), (s1e.2.2.2.2.2.1), (s1e.2.2.2.2.2.2)) : Int32 × (Nat → Int32) × Int64 × (Nat → Int32) × (Nat → Int32) × (Nat → Int32) × (Nat → Int32)) = some _ from hf)
    exact hret _ _ _ eX6_leastTug_48
  have L5 : ∀ (nL5 : Nat) (s1 : Int32 × (Nat → Int32) × Int64 × (Nat → Int32) × (Nat → Int32) × (Nat → Int32) × (Nat → Int32)), lp (fB_Se_leastTug_3 v0 v1 v2 v3 p1) nL5 s1 = some q2 → vV x 6 0 0 (W_Se (z_g x) a0 o0 (gSh_ints (gSe_base v0)) (gSh_harm (gSe_base v0)) (gLi_fast (gSh_lines (gSe_base v0))) (gLi_place (gSh_lines (gSe_base v0))) (gLi_post (gSh_lines (gSe_base v0))) (gLi_length (gSh_lines (gSe_base v0))) (s1.2.1) (s1.2.2.1) (s1.2.2.2.1) (s1.2.2.2.2.1) (s1.2.2.2.2.2.1) (s1.2.2.2.2.2.2) (gQu_ints (gSe_other v0)) (gQu_places (gSe_other v0)) (gQu_strengths (gSe_other v0)) ++ W_Qu (z_g x) a1 o1 (gQu_ints v1) (gQu_places v1) (gQu_strengths v1) ++ W_Sh (z_g x) a2 o2 (gSh_ints v2) (gSh_harm v2) (gLi_fast (gSh_lines v2)) (gLi_place (gSh_lines v2)) (gLi_post (gSh_lines v2)) (gLi_length (gSh_lines v2)) ++ W_Pl (z_g x) a3 o3 (gPl_ints v3) (gPl_seconds v3) (gPl_engines v3) (gPl_wheels v3)) 3 [(0, .ref (a0 o0)), (1, .ref (a1 o1)), (2, .ref (a2 o2)), (3, .ref (a3 o3)), (4, .int p1), (5, .int (s1.1))] [] := by
    intro nL5
    induction nL5 with
    | zero => intro s1 hq; cases hq
    | succ nL5 ihL5 =>
      intro s1 hbL5
      rw [lp_succ, fB_Se_leastTug_3] at hbL5
      refine r_iload C eX6_leastTug_3 5 rfl ?_
      refine r_bipush C (v := 99) eX6_leastTug_5 (by decide) ?_
      refine r_icmp_gt C eX6_leastTug_7 (fun c6 => ?_) (fun c6 => ?_)
      · rw [if_pos c6] at hbL5
        obtain rfl := Option.some.inj hbL5
        refine r_sub (lv' := []) [] rfl ?_
        exact J4 _ rfl
      · rw [if_neg c6] at hbL5
        refine r_aload_n C eX6_leastTug_10 0 rfl rfl ?_
        refine r_get (v := .ref (a0 (o0 + 7))) C eX6_leastTug_11 FX6_18 0 rfl rfl ?_
        refine r_aload_n C eX6_leastTug_14 2 rfl rfl ?_
        obtain ⟨r7, hr7, hbL5⟩ := zbind hbL5
        refine r_V_v (ws' := W_Se (z_g x) a0 o0 (gSh_ints (gSe_base v0)) (gSh_harm (gSe_base v0)) (gLi_fast (gSh_lines (gSe_base v0))) (gLi_place (gSh_lines (gSe_base v0))) (gLi_post (gSh_lines (gSe_base v0))) (gLi_length (gSh_lines (gSe_base v0))) (r7.1) (r7.2.1) (r7.2.2.1) (r7.2.2.2.1) (r7.2.2.2.2.1) (r7.2.2.2.2.2) (gQu_ints (gSe_other v0)) (gQu_places (gSe_other v0)) (gQu_strengths (gSe_other v0)) ++ W_Qu (z_g x) a1 o1 (gQu_ints v1) (gQu_places v1) (gQu_strengths v1) ++ W_Sh (z_g x) a2 o2 (gSh_ints v2) (gSh_harm v2) (gLi_fast (gSh_lines v2)) (gLi_place (gSh_lines v2)) (gLi_post (gSh_lines v2)) (gLi_length (gSh_lines v2)) ++ W_Pl (z_g x) a3 o3 (gPl_ints v3) (gPl_seconds v3) (gPl_engines v3) (gPl_wheels v3)) C (c_Sh_copyFrom (z_l x) (z_g x) a0 (o0 + 7) ((s1.2.1), (s1.2.2.1), ((s1.2.2.2.1), (s1.2.2.2.2.1), (s1.2.2.2.2.2.1), (s1.2.2.2.2.2.2))) a2 o2 v2  r7 hr7) eX6_leastTug_15 MX6_28 ⟨0, 7, _, _, rfl, rfl, rfl⟩ [7, 8, 9, 10, 11, 12, 19, 20, 21, 22, 23, 24] rfl rfl rfl rfl [0, 1, 2, 3, 4, 5, 6, 13, 14, 15, 16, 17, 18, 25, 26, 27, 28] rfl ⟨rfl, rfl, rfl, rfl, rfl, rfl, rfl, rfl, rfl, rfl, rfl, rfl, rfl, rfl, rfl, rfl, rfl, trivial⟩ 29 rfl rfl rfl rfl rfl rfl ?_
        refine r_aload_n C eX6_leastTug_18 0 rfl rfl ?_
        refine r_get (v := .ref (a0 (o0 + 7))) C eX6_leastTug_19 FX6_18 0 rfl rfl ?_
        refine r_iload C eX6_leastTug_22 5 rfl ?_
        refine r_put (ws' := W_Se (z_g x) a0 o0 (gSh_ints (gSe_base v0)) (gSh_harm (gSe_base v0)) (gLi_fast (gSh_lines (gSe_base v0))) (gLi_place (gSh_lines (gSe_base v0))) (gLi_post (gSh_lines (gSe_base v0))) (gLi_length (gSh_lines (gSe_base v0))) (upd (r7.1) 8 (s1.1)) (r7.2.1) (r7.2.2.1) (r7.2.2.2.1) (r7.2.2.2.2.1) (r7.2.2.2.2.2) (gQu_ints (gSe_other v0)) (gQu_places (gSe_other v0)) (gQu_strengths (gSe_other v0)) ++ W_Qu (z_g x) a1 o1 (gQu_ints v1) (gQu_places v1) (gQu_strengths v1) ++ W_Sh (z_g x) a2 o2 (gSh_ints v2) (gSh_harm v2) (gLi_fast (gSh_lines v2)) (gLi_place (gSh_lines v2)) (gLi_post (gSh_lines v2)) (gLi_length (gSh_lines v2)) ++ W_Pl (z_g x) a3 o3 (gPl_ints v3) (gPl_seconds v3) (gPl_engines v3) (gPl_wheels v3)) C eX6_leastTug_24 PX6_76 7 rfl rfl rfl (Nat.le_of_ble_eq_true rfl) rfl ?_
        refine r_aload_n C eX6_leastTug_27 0 rfl rfl ?_
        refine r_aload_n C eX6_leastTug_28 1 rfl rfl ?_
        refine r_aload_n C eX6_leastTug_29 3 rfl rfl ?_
        refine r_iload C eX6_leastTug_30 4 rfl ?_
        obtain ⟨r8, hr8, hbL5⟩ := zbind hbL5
        refine r_V_z (ws' := W_Se (z_g x) a0 o0 (gSh_ints (gSe_base v0)) (gSh_harm (gSe_base v0)) (gLi_fast (gSh_lines (gSe_base v0))) (gLi_place (gSh_lines (gSe_base v0))) (gLi_post (gSh_lines (gSe_base v0))) (gLi_length (gSh_lines (gSe_base v0))) (r8.2.1) (r8.2.2.1) (r8.2.2.2) (r7.2.2.2.1) (r7.2.2.2.2.1) (r7.2.2.2.2.2) (gQu_ints (gSe_other v0)) (gQu_places (gSe_other v0)) (gQu_strengths (gSe_other v0)) ++ W_Qu (z_g x) a1 o1 (gQu_ints v1) (gQu_places v1) (gQu_strengths v1) ++ W_Sh (z_g x) a2 o2 (gSh_ints v2) (gSh_harm v2) (gLi_fast (gSh_lines v2)) (gLi_place (gSh_lines v2)) (gLi_post (gSh_lines v2)) (gLi_length (gSh_lines v2)) ++ W_Pl (z_g x) a3 o3 (gPl_ints v3) (gPl_seconds v3) (gPl_engines v3) (gPl_wheels v3)) C (c_Se_isSafeByPlan (z_l x) (z_g x) a0 o0 ((gSe_base v0), ((upd (r7.1) 8 (s1.1)), (r7.2.1), ((r7.2.2.1), (r7.2.2.2.1), (r7.2.2.2.2.1), (r7.2.2.2.2.2))), (gSe_other v0)) a1 o1 v1 a3 o3 v3 p1 r8 hr8) eX6_leastTug_32 MX6_66 ⟨0, 6, _, _, rfl, rfl, rfl⟩ [0, 1, 2, 3, 4, 5, 6, 7, 8, 9, 10, 11, 12, 13, 14, 15, 16, 17, 18, 25, 26, 27, 28] rfl rfl rfl rfl [19, 20, 21, 22, 23, 24] rfl ⟨rfl, rfl, rfl, rfl, rfl, rfl, trivial⟩ 29 rfl rfl rfl rfl rfl rfl (fun zb9 => ?_)
        refine r_if_eq C eX6_leastTug_35 (fun c10 => ?_) (fun c10 => ?_)
        · rw [if_pos c10] at hbL5
          refine r_iinc C (v := ((s1.1) + 1)) [(5, .int ((s1.1) + 1)), (0, .ref (a0 o0)), (1, .ref (a1 o1)), (2, .ref (a2 o2)), (3, .ref (a3 o3)), (4, .int p1)] eX6_leastTug_41 5 rfl rfl (by decide) rfl ?_
          refine r_goto C eX6_leastTug_44 ?_
          refine r_sub (lv' := [(0, .ref (a0 o0)), (1, .ref (a1 o1)), (2, .ref (a2 o2)), (3, .ref (a3 o3)), (4, .int p1), (5, .int ((s1.1) + 1))]) [1, 2, 3, 4, 5, 0] rfl ?_
          have hc := ihL5 (((s1.1) + 1), (r8.2.1), (r8.2.2.1), (r8.2.2.2), (r7.2.2.2.1), (r7.2.2.2.2.1), (r7.2.2.2.2.2)) hbL5
          exact hc
        · rw [if_neg c10] at hbL5
          refine r_iload C eX6_leastTug_38 5 rfl ?_
          obtain rfl := Option.some.inj (show some (Sum.inl (((s1.1), (r8.2.1), (r8.2.2.1), (r8.2.2.2), (r7.2.2.2.1), (r7.2.2.2.2.1), (r7.2.2.2.2.2)) : Int32 × (Nat → Int32) × Int64 × (Nat → Int32) × (Nat → Int32) × (Nat → Int32) × (Nat → Int32))) = some _ from hbL5)
          obtain rfl := Option.some.inj (show some (((s1.1), (r8.2.1), (r8.2.2.1), (r8.2.2.2), (r7.2.2.2.1), (r7.2.2.2.2.1), (r7.2.2.2.2.2)) : Int32 × (Nat → Int32) × Int64 × (Nat → Int32) × (Nat → Int32) × (Nat → Int32) × (Nat → Int32)) = some _ from hf)
          exact hret _ _ _ eX6_leastTug_40
  refine r_sub (lv' := [(0, .ref (a0 o0)), (1, .ref (a1 o1)), (2, .ref (a2 o2)), (3, .ref (a3 o3)), (4, .int p1), (5, .int 0)]) [1, 2, 3, 4, 5, 0] rfl ?_
  have hc := L5 LF (0, (gSh_ints (gSe_probe v0)), (gSh_harm (gSe_probe v0)), (gLi_fast (gSh_lines (gSe_probe v0))), (gLi_place (gSh_lines (gSe_probe v0))), (gLi_post (gSh_lines (gSe_probe v0))), (gLi_length (gSh_lines (gSe_probe v0)))) h3
  exact hc
