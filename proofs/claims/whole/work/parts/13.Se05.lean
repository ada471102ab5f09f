theorem eX6_greatestWind_0 : zd 1 cX6_greatestWind 0 1 (.aload_n 0) := ⟨by decide +kernel, rfl⟩
theorem eX6_greatestWind_1 : zd 3 cX6_greatestWind 1 4 (.getfield 24) := ⟨by decide +kernel, rfl⟩
theorem eX6_greatestWind_4 : zd 1 cX6_greatestWind 4 5 (.aload_n 1) := ⟨by decide +kernel, rfl⟩
theorem eX6_greatestWind_5 : zd 3 cX6_greatestWind 5 8 (.invokevirtual 60) := ⟨by decide +kernel, rfl⟩
theorem eX6_greatestWind_8 : zd 2 cX6_greatestWind 8 10 (.bipush 99) := ⟨by decide +kernel, rfl⟩
theorem eX6_greatestWind_10 : zd 2 cX6_greatestWind 10 12 (.istore 5) := ⟨by decide +kernel, rfl⟩
theorem eX6_greatestWind_12 : zd 2 cX6_greatestWind 12 14 (.iload 5) := ⟨by decide +kernel, rfl⟩
theorem eX6_greatestWind_14 : zdi cX6_greatestWind 14 17 57 (.ifCond .lt) := ⟨43, by decide +kernel, rfl, by decide⟩
theorem eX6_greatestWind_17 : zd 1 cX6_greatestWind 17 18 (.aload_n 0) := ⟨by decide +kernel, rfl⟩
theorem eX6_greatestWind_18 : zd 3 cX6_greatestWind 18 21 (.getfield 24) := ⟨by decide +kernel, rfl⟩
theorem eX6_greatestWind_21 : zd 2 cX6_greatestWind 21 23 (.iload 5) := ⟨by decide +kernel, rfl⟩
theorem eX6_greatestWind_23 : zd 3 cX6_greatestWind 23 26 (.putfield 63) := ⟨by decide +kernel, rfl⟩
theorem eX6_greatestWind_26 : zd 1 cX6_greatestWind 26 27 (.aload_n 0) := ⟨by decide +kernel, rfl⟩
theorem eX6_greatestWind_27 : zd 3 cX6_greatestWind 27 30 (.getfield 18) := ⟨by decide +kernel, rfl⟩
theorem eX6_greatestWind_30 : zd 1 cX6_greatestWind 30 31 (.aload_n 2) := ⟨by decide +kernel, rfl⟩
theorem eX6_greatestWind_31 : zd 3 cX6_greatestWind 31 34 (.invokevirtual 28) := ⟨by decide +kernel, rfl⟩
theorem eX6_greatestWind_34 : zd 1 cX6_greatestWind 34 35 (.aload_n 0) := ⟨by decide +kernel, rfl⟩
theorem eX6_greatestWind_35 : zd 1 cX6_greatestWind 35 36 (.aload_n 0) := ⟨by decide +kernel, rfl⟩
theorem eX6_greatestWind_36 : zd 3 cX6_greatestWind 36 39 (.getfield 24) := ⟨by decide +kernel, rfl⟩
theorem eX6_greatestWind_39 : zd 1 cX6_greatestWind 39 40 (.aload_n 3) := ⟨by decide +kernel, rfl⟩
theorem eX6_greatestWind_40 : zd 2 cX6_greatestWind 40 42 (.iload 4) := ⟨by decide +kernel, rfl⟩
theorem eX6_greatestWind_42 : zd 3 cX6_greatestWind 42 45 (.invokevirtual 66) := ⟨by decide +kernel, rfl⟩
theorem eX6_greatestWind_45 : zdi cX6_greatestWind 45 48 51 (.ifCond .eq) := ⟨6, by decide +kernel, rfl, by decide⟩
theorem eX6_greatestWind_48 : zd 2 cX6_greatestWind 48 50 (.iload 5) := ⟨by decide +kernel, rfl⟩
theorem eX6_greatestWind_50 : zd 1 cX6_greatestWind 50 51 (.ireturn) := ⟨by decide +kernel, rfl⟩
theorem eX6_greatestWind_51 : zd 3 cX6_greatestWind 51 54 (.iinc 5 (-1)) := ⟨by decide +kernel, rfl⟩
theorem eX6_greatestWind_54 : zdi cX6_greatestWind 54 57 12 (.goto) := ⟨(-42), by decide +kernel, rfl, by decide⟩
theorem eX6_greatestWind_57 : zd 1 cX6_greatestWind 57 58 (.iconst (-1)) := ⟨by decide +kernel, rfl⟩
theorem eX6_greatestWind_58 : zd 1 cX6_greatestWind 58 59 (.ireturn) := ⟨by decide +kernel, rfl⟩
theorem FX6_24 : zlF RX6 24 6 2 := ⟨(RX6, TX6, 3), rfl, by decide, q311, zin6⟩
theorem PX6_63 : zlP RX6 63 4 10 .int := ⟨(RX4, TX4, 16), tyX4, rfl, by decide, q79, zin4, tyX4_ok, nmX4, rfl, by decide +kernel⟩
theorem MX6_60 : zlV RX6 60 yX4_copyFrom cX4_copyFrom 3 (none) 1 := ⟨q922, q599, q600, q4, q601, by decide, by decide, by decide +kernel⟩
theorem MX6_66 : zlV RX6 66 yX6_isSafeByPlan cX6_isSafeByPlan 8 ((Option.some FieldType.boolean)) 3 := ⟨q923, q925, qs21, q9, q926, by decide, by decide, by decide +kernel⟩
noncomputable def fB_Se_greatestWind_12 (v0 : tSe) (v2 : tSh) (v3 : tPl) (p1 : Int32) (r1 : (Nat → Int32) × (Nat → Int32) × (Nat → Int32)) (ih : (Int32 × (Nat → Int32) × Int64 × (Nat → Int32) × (Nat → Int32) × (Nat → Int32) × (Nat → Int32) × (Nat → Int32)) → Option ((Int32 × (Nat → Int32) × Int64 × (Nat → Int32) × (Nat → Int32) × (Nat → Int32) × (Nat → Int32) × (Nat → Int32) × (Nat → Int32) × (Nat → Int32)) ⊕ (Int32 × (Nat → Int32) × Int64 × (Nat → Int32) × (Nat → Int32) × (Nat → Int32) × (Nat → Int32) × (Nat → Int32)))) (s2 : Int32 × (Nat → Int32) × Int64 × (Nat → Int32) × (Nat → Int32) × (Nat → Int32) × (Nat → Int32) × (Nat → Int32)) : Option ((Int32 × (Nat → Int32) × Int64 × (Nat → Int32) × (Nat → Int32) × (Nat → Int32) × (Nat → Int32) × (Nat → Int32) × (Nat → Int32) × (Nat → Int32)) ⊕ (Int32 × (Nat → Int32) × Int64 × (Nat → Int32) × (Nat → Int32) × (Nat → Int32) × (Nat → Int32) × (Nat → Int32))) := (if (s2.1) < 0 then (some (Sum.inr ((s2.1), (s2.2.1), (s2.2.2.1), (s2.2.2.2.1), (s2.2.2.2.2.1), (s2.2.2.2.2.2.1), (s2.2.2.2.2.2.2.1), (s2.2.2.2.2.2.2.2)))) else (Option.bind (f_Sh_copyFrom ((s2.2.1), (s2.2.2.1), ((s2.2.2.2.1), (s2.2.2.2.2.1), (s2.2.2.2.2.2.1), (s2.2.2.2.2.2.2.1))) v2) (fun (r8 : (Nat → Int32) × Int64 × (Nat → Int32) × (Nat → Int32) × (Nat → Int32) × (Nat → Int32)) => (Option.bind (f_Se_isSafeByPlan_other ((gSe_base v0), ((r8.1), (r8.2.1), ((r8.2.2.1), (r8.2.2.2.1), (r8.2.2.2.2.1), (r8.2.2.2.2.2))), ((upd (s2.2.2.2.2.2.2.2) 10 (s2.1)), (r1.2.1), (r1.2.2))) v3 p1) (fun (r9 : Int32 × (Nat → Int32) × Int64 × (Nat → Int32)) => (if (r9.1) = 0 then (ih (((s2.1) + (-1)), (r9.2.1), (r9.2.2.1), (r9.2.2.2), (r8.2.2.2.1), (r8.2.2.2.2.1), (r8.2.2.2.2.2), (upd (s2.2.2.2.2.2.2.2) 10 (s2.1)))) else (some (Sum.inl ((s2.1), (r9.2.1), (r9.2.2.1), (r9.2.2.2), (r8.2.2.2.1), (r8.2.2.2.2.1), (r8.2.2.2.2.2), (upd (s2.2.2.2.2.2.2.2) 10 (s2.1)), (r1.2.1), (r1.2.2))))))))))
noncomputable def f_Se_greatestWind (v0 : tSe) (v1 : tQu) (v2 : tSh) (v3 : tPl) (p1 : Int32) : Option (Int32 × (Nat → Int32) × Int64 × (Nat → Int32) × (Nat → Int32) × (Nat → Int32) × (Nat → Int32) × (Nat → Int32) × (Nat → Int32) × (Nat → Int32)) := (Option.bind (f_Qu_copyFrom (gSe_other v0) v1) (fun (r1 : (Nat → Int32) × (Nat → Int32) × (Nat → Int32)) => (Option.bind (lp (fB_Se_greatestWind_12 v0 v2 v3 p1 r1) LF (99, (gSh_ints (gSe_probe v0)), (gSh_harm (gSe_probe v0)), (gLi_fast (gSh_lines (gSe_probe v0))), (gLi_place (gSh_lines (gSe_probe v0))), (gLi_post (gSh_lines (gSe_probe v0))), (gLi_length (gSh_lines (gSe_probe v0))), (r1.1))) (fun (q3 : (Int32 × (Nat → Int32) × Int64 × (Nat → Int32) × (Nat → Int32) × (Nat → Int32) × (Nat → Int32) × (Nat → Int32) × (Nat → Int32) × (Nat → Int32)) ⊕ (Int32 × (Nat → Int32) × Int64 × (Nat → Int32) × (Nat → Int32) × (Nat → Int32) × (Nat → Int32) × (Nat → Int32))) => Sum.elim (fun r => (some r)) (fun (s2e : Int32 × (Nat → Int32) × Int64 × (Nat → Int32) × (Nat → Int32) × (Nat → Int32) × (Nat → Int32) × (Nat → Int32)) => (some ((-1), (s2e.2.1), (s2e.2.2.1), (s2e.2.2.2.1), (s2e.2.2.2.2.1), (s2e.2.2.2.2.2.1), (s2e.2.2.2.2.2.2.1), (s2e.2.2.2.2.2.2.2), (r1.2.1), (r1.2.2)))) q3))))
abbrev rm_Se_greatestWind : Room := { frames := 5, cells := 0, slots := 0, locals := 129 }
set_option maxHeartbeats 4000000 in
set_option maxRecDepth 100000 in
theorem c_Se_greatestWind (l : Launch) (g : zGl) (a0 : Nat → Nat) (o0 : Nat) (v0 : tSe) (a1 : Nat → Nat) (o1 : Nat) (v1 : tQu) (a2 : Nat → Nat) (o2 : Nat) (v2 : tSh) (a3 : Nat → Nat) (o3 : Nat) (v3 : tPl) (p1 : Int32) (out : Int32 × (Nat → Int32) × Int64 × (Nat → Int32) × (Nat → Int32) × (Nat → Int32) × (Nat → Int32) × (Nat → Int32) × (Nat → Int32) × (Nat → Int32)) (hf : f_Se_greatestWind v0 v1 v2 v3 p1 = some out) : zMi l yX6_greatestWind cX6_greatestWind 6 rm_Se_greatestWind g [.ref (a0 o0), .ref (a1 o1), .ref (a2 o2), .ref (a3 o3), .int p1] (W_Se g a0 o0 (gSh_ints (gSe_base v0)) (gSh_harm (gSe_base v0)) (gLi_fast (gSh_lines (gSe_base v0))) (gLi_place (gSh_lines (gSe_base v0))) (gLi_post (gSh_lines (gSe_base v0))) (gLi_length (gSh_lines (gSe_base v0))) (gSh_ints (gSe_probe v0)) (gSh_harm (gSe_probe v0)) (gLi_fast (gSh_lines (gSe_probe v0))) (gLi_place (gSh_lines (gSe_probe v0))) (gLi_post (gSh_lines (gSe_probe v0))) (gLi_length (gSh_lines (gSe_probe v0))) (gQu_ints (gSe_other v0)) (gQu_places (gSe_other v0)) (gQu_strengths (gSe_other v0)) ++ W_Qu g a1 o1 (gQu_ints v1) (gQu_places v1) (gQu_strengths v1) ++ W_Sh g a2 o2 (gSh_ints v2) (gSh_harm v2) (gLi_fast (gSh_lines v2)) (gLi_place (gSh_lines v2)) (gLi_post (gSh_lines v2)) (gLi_length (gSh_lines v2)) ++ W_Pl g a3 o3 (gPl_ints v3) (gPl_seconds v3) (gPl_engines v3) (gPl_wheels v3)) (out.1) (W_Se g a0 o0 (gSh_ints (gSe_base v0)) (gSh_harm (gSe_base v0)) (gLi_fast (gSh_lines (gSe_base v0))) (gLi_place (gSh_lines (gSe_base v0))) (gLi_post (gSh_lines (gSe_base v0))) (gLi_length (gSh_lines (gSe_base v0))) (out.2.1) (out.2.2.1) (out.2.2.2.1) (out.2.2.2.2.1) (out.2.2.2.2.2.1) (out.2.2.2.2.2.2.1) (out.2.2.2.2.2.2.2.1) (out.2.2.2.2.2.2.2.2.1) (out.2.2.2.2.2.2.2.2.2) ++ W_Qu g a1 o1 (gQu_ints v1) (gQu_places v1) (gQu_strengths v1) ++ W_Sh g a2 o2 (gSh_ints v2) (gSh_harm v2) (gLi_fast (gSh_lines v2)) (gLi_place (gSh_lines v2)) (gLi_post (gSh_lines v2)) (gLi_length (gSh_lines v2)) ++ W_Pl g a3 o3 (gPl_ints v3) (gPl_seconds v3) (gPl_engines v3) (gPl_wheels v3)) := by
  refine zMi_of (lv := [(0, .ref (a0 o0)), (1, .ref (a1 o1)), (2, .ref (a2 o2)), (3, .ref (a3 o3)), (4, .int p1)]) (by decide) (Nat.le_of_ble_eq_true rfl) rfl (fun x hl hg C hret => ?_)
  subst hl; subst hg
  rw [f_Se_greatestWind] at hf
  refine r_aload_n C eX6_greatestWind_0 0 rfl rfl ?_
  refine r_get (v := .ref (a0 (o0 + 13))) C eX6_greatestWind_1 FX6_24 0 rfl rfl ?_
  refine r_aload_n C eX6_greatestWind_4 1 rfl rfl ?_
  obtain ⟨r1, hr1, hf⟩ := zbind hf
  refine r_V_v (ws' := W_Se (z_g x) a0 o0 (gSh_ints (gSe_base v0)) (gSh_harm (gSe_base v0)) (gLi_fast (gSh_lines (gSe_base v0))) (gLi_place (gSh_lines (gSe_base v0))) (gLi_post (gSh_lines (gSe_base v0))) (gLi_length (gSh_lines (gSe_base v0))) (gSh_ints (gSe_probe v0)) (gSh_harm (gSe_probe v0)) (gLi_fast (gSh_lines (gSe_probe v0))) (gLi_place (gSh_lines (gSe_probe v0))) (gLi_post (gSh_lines (gSe_probe v0))) (gLi_length (gSh_lines (gSe_probe v0))) (r1.1) (r1.2.1) (r1.2.2) ++ W_Qu (z_g x) a1 o1 (gQu_ints v1) (gQu_places v1) (gQu_strengths v1) ++ W_Sh (z_g x) a2 o2 (gSh_ints v2) (gSh_harm v2) (gLi_fast (gSh_lines v2)) (gLi_place (gSh_lines v2)) (gLi_post (gSh_lines v2)) (gLi_length (gSh_lines v2)) ++ W_Pl (z_g x) a3 o3 (gPl_ints v3) (gPl_seconds v3) (gPl_engines v3) (gPl_wheels v3)) C (c_Qu_copyFrom (z_l x) (z_g x) a0 (o0 + 13) (gSe_other v0) a1 o1 v1  r1 hr1) eX6_greatestWind_5 MX6_60 ⟨0, 4, _, _, rfl, rfl, rfl⟩ [13, 14, 15, 16, 17, 18] rfl rfl rfl rfl [0, 1, 2, 3, 4, 5, 6, 7, 8, 9, 10, 11, 12, 19, 20, 21, 22, 23, 24, 25, 26, 27, 28] rfl ⟨rfl, rfl, rfl, rfl, rfl, rfl, rfl, rfl, rfl, rfl, rfl, rfl, rfl, rfl, rfl, rfl, rfl, rfl, rfl, rfl, rfl, rfl, rfl, trivial⟩ 29 rfl rfl rfl rfl rfl rfl ?_
  refine r_bipush C (v := 99) eX6_greatestWind_8 (by decide) ?_
  refine r_istore C [(5, .int 99), (0, .ref (a0 o0)), (1, .ref (a1 o1)), (2, .ref (a2 o2)), (3, .ref (a3 o3)), (4, .int p1)] eX6_greatestWind_10 (by decide) rfl ?_
  obtain ⟨q3, h4, hf⟩ := zbind hf
  have J5 : ∀ s2e : Int32 × (Nat → Int32) × Int64 × (Nat → Int32) × (Nat → Int32) × (Nat → Int32) × (Nat → Int32) × (Nat → Int32), q3 = Sum.inr s2e → vV x 6 0 0 (W_Se (z_g x) a0 o0 (gSh_ints (gSe_base v0)) (gSh_harm (gSe_base v0)) (gLi_fast (gSh_lines (gSe_base v0))) (gLi_place (gSh_lines (gSe_base v0))) (gLi_post (gSh_lines (gSe_base v0))) (gLi_length (gSh_lines (gSe_base v0))) (s2e.2.1) (s2e.2.2.1) (s2e.2.2.2.1) (s2e.2.2.2.2.1) (s2e.2.2.2.2.2.1) (s2e.2.2.2.2.2.2.1) (s2e.2.2.2.2.2.2.2) (r1.2.1) (r1.2.2) ++ W_Qu (z_g x) a1 o1 (gQu_ints v1) (gQu_places v1) (gQu_strengths v1) ++ W_Sh (z_g x) a2 o2 (gSh_ints v2) (gSh_harm v2) (gLi_fast (gSh_lines v2)) (gLi_place (gSh_lines v2)) (gLi_post (gSh_lines v2)) (gLi_length (gSh_lines v2)) ++ W_Pl (z_g x) a3 o3 (gPl_ints v3) (gPl_seconds v3) (gPl_engines v3) (gPl_wheels v3)) 57 [] [] := by
    intro s2e hs
    subst hs
    rw [Sum.elim_inr] at hf
    refine r_iconst C (v := (-1)) eX6_greatestWind_57 (by decide) ?_
    obtain rfl := Option.some.inj (show some (((-1), (s2e.2.1), (s2e.2.2.1), (s2e.2.2.2.1), (s2e.2.2.2.2.1), (s2e.2.2.2.2.2.1), (s2e.2.2.2.2.2.2.1), (s2e.2.2.2.2.2.2.2), (r1.2.1), (r1.2.2)) : Int32 × (Nat → Int32) × Int64 × (Nat → Int32) × (Nat → Int32) × (Nat → Int32) × (Nat → Int32) × (Nat → Int32) × (Nat → Int32) × (Nat → Int32)) = some _ from hf)
    exact hret _ _ _ eX6_greatestWind_58
  have L6 : ∀ (nL6 : Nat) (s2 : Int32 × (Nat → Int32) × Int64 × (Nat → Int32) × (Nat → Int32) × (Nat → Int32) × (Nat → Int32) × (Nat → Int32)), lp (fB_Se_greatestWind_12 v0 v2 v3 p1 r1) nL6 s2 = some q3 → vV x 6 0 0 (W_Se (z_g x) a0 o0 (gSh_ints (gSe_base v0)) (gSh_harm (gSe_base v0)) (gLi_fast (gSh_lines (gSe_base v0))) (gLi_place (gSh_lines (gSe_base v0))) (gLi_post (gSh_lines (gSe_base v0))) (gLi_length (gSh_lines (gSe_base v0))) (s2.2.1) (s2.2.2.1) (s2.2.2.2.1) (s2.2.2.2.2.1) (s2.2.2.2.2.2.1) (s2.2.2.2.2.2.2.1) (s2.2.2.2.2.2.2.2) (r1.2.1) (r1.2.2) ++ W_Qu (z_g x) a1 o1 (gQu_ints v1) (gQu_places v1) (gQu_strengths v1) ++ W_Sh (z_g x) a2 o2 (gSh_ints v2) (gSh_harm v2) (gLi_fast (gSh_lines v2)) (gLi_place (gSh_lines v2)) (gLi_post (gSh_lines v2)) (gLi_length (gSh_lines v2)) ++ W_Pl (z_g x) a3 o3 (gPl_ints v3) (gPl_seconds v3) (gPl_engines v3) (gPl_wheels v3)) 12 [(0, .ref (a0 o0)), (2, .ref (a2 o2)), (3, .ref (a3 o3)), (4, .int p1), (5, .int (s2.1))] [] := by
    intro nL6
    induction nL6 with
    | zero => intro s2 hq; cases hq
    | succ nL6 ihL6 =>
      intro s2 hbL6
      rw [lp_succ, fB_Se_greatestWind_12] at hbL6
      refine r_iload C eX6_greatestWind_12 4 rfl ?_
      refine r_if_lt C eX6_greatestWind_14 (fun c7 => ?_) (fun c7 => ?_)
      · rw [if_pos c7] at hbL6
        obtain rfl := Option.some.inj hbL6
        refine r_sub (lv' := []) [] rfl ?_
        exact J5 _ rfl
      · rw [if_neg c7] at hbL6
        refine r_aload_n C eX6_greatestWind_17 0 rfl rfl ?_
        refine r_get (v := .ref (a0 (o0 + 13))) C eX6_greatestWind_18 FX6_24 0 rfl rfl ?_
        refine r_iload C eX6_greatestWind_21 4 rfl ?_
        refine r_put (ws' := W_Se (z_g x) a0 o0 (gSh_ints (gSe_base v0)) (gSh_harm (gSe_base v0)) (gLi_fast (gSh_lines (gSe_base v0))) (gLi_place (gSh_lines (gSe_base v0))) (gLi_post (gSh_lines (gSe_base v0))) (gLi_length (gSh_lines (gSe_base v0))) (s2.2.1) (s2.2.2.1) (s2.2.2.2.1) (s2.2.2.2.2.1) (s2.2.2.2.2.2.1) (s2.2.2.2.2.2.2.1) (upd (s2.2.2.2.2.2.2.2) 10 (s2.1)) (r1.2.1) (r1.2.2) ++ W_Qu (z_g x) a1 o1 (gQu_ints v1) (gQu_places v1) (gQu_strengths v1) ++ W_Sh (z_g x) a2 o2 (gSh_ints v2) (gSh_harm v2) (gLi_fast (gSh_lines v2)) (gLi_place (gSh_lines v2)) (gLi_post (gSh_lines v2)) (gLi_length (gSh_lines v2)) ++ W_Pl (z_g x) a3 o3 (gPl_ints v3) (gPl_seconds v3) (gPl_engines v3) (gPl_wheels v3)) C eX6_greatestWind_23 PX6_63 13 rfl rfl rfl (Nat.le_of_ble_eq_true rfl) rfl ?_
        refine r_aload_n C eX6_greatestWind_26 0 rfl rfl ?_
        refine r_get (v := .ref (a0 (o0 + 7))) C eX6_greatestWind_27 FX6_18 0 rfl rfl ?_
        refine r_aload_n C eX6_greatestWind_30 1 rfl rfl ?_
        obtain ⟨r8, hr8, hbL6⟩ := zbind hbL6
        refine r_V_v (ws' := W_Se (z_g x) a0 o0 (gSh_ints (gSe_base v0)) (gSh_harm (gSe_base v0)) (gLi_fast (gSh_lines (gSe_base v0))) (gLi_place (gSh_lines (gSe_base v0))) (gLi_post (gSh_lines (gSe_base v0))) (gLi_length (gSh_lines (gSe_base v0))) (r8.1) (r8.2.1) (r8.2.2.1) (r8.2.2.2.1) (r8.2.2.2.2.1) (r8.2.2.2.2.2) (upd (s2.2.2.2.2.2.2.2) 10 (s2.1)) (r1.2.1) (r1.2.2) ++ W_Qu (z_g x) a1 o1 (gQu_ints v1) (gQu_places v1) (gQu_strengths v1) ++ W_Sh (z_g x) a2 o2 (gSh_ints v2) (gSh_harm v2) (gLi_fast (gSh_lines v2)) (gLi_place (gSh_lines v2)) (gLi_post (gSh_lines v2)) (gLi_length (gSh_lines v2)) ++ W_Pl (z_g x) a3 o3 (gPl_ints v3) (gPl_seconds v3) (gPl_engines v3) (gPl_wheels v3)) C (c_Sh_copyFrom (z_l x) (z_g x) a0 (o0 + 7) ((s2.2.1), (s2.2.2.1), ((s2.2.2.2.1), (s2.2.2.2.2.1), (s2.2.2.2.2.2.1), (s2.2.2.2.2.2.2.1))) a2 o2 v2  r8 hr8) eX6_greatestWind_31 MX6_28 ⟨0, 7, _, _, rfl, rfl, rfl⟩ [7, 8, 9, 10, 11, 12, 19, 20, 21, 22, 23, 24] rfl rfl rfl rfl [0, 1, 2, 3, 4, 5, 6, 13, 14, 15, 16, 17, 18, 25, 26, 27, 28] rfl ⟨rfl, rfl, rfl, rfl, rfl, rfl, rfl, rfl, rfl, rfl, rfl, rfl, rfl, rfl, rfl, rfl, rfl, trivial⟩ 29 rfl rfl rfl rfl rfl rfl ?_
        refine r_aload_n C eX6_greatestWind_34 0 rfl rfl ?_
        refine r_aload_n C eX6_greatestWind_35 0 rfl rfl ?_
        refine r_get (v := .ref (a0 (o0 + 13))) C eX6_greatestWind_36 FX6_24 0 rfl rfl ?_
        refine r_aload_n C eX6_greatestWind_39 2 rfl rfl ?_
        refine r_iload C eX6_greatestWind_40 3 rfl ?_
        obtain ⟨r9, hr9, hbL6⟩ := zbind hbL6
        refine r_V_z (ws' := W_Se (z_g x) a0 o0 (gSh_ints (gSe_base v0)) (gSh_harm (gSe_base v0)) (gLi_fast (gSh_lines (gSe_base v0))) (gLi_place (gSh_lines (gSe_base v0))) (gLi_post (gSh_lines (gSe_base v0))) (gLi_length (gSh_lines (gSe_base v0))) (r9.2.1) (r9.2.2.1) (r9.2.2.2) (r8.2.2.2.1) (r8.2.2.2.2.1) (r8.2.2.2.2.2) (upd (s2.2.2.2.2.2.2.2) 10 (s2.1)) (r1.2.1) (r1.2.2) ++ W_Qu (z_g x) a1 o1 (gQu_ints v1) (gQu_places v1) (gQu_strengths v1) ++ W_Sh (z_g x) a2 o2 (gSh_ints v2) (gSh_harm v2) (gLi_fast (gSh_lines v2)) (gLi_place (gSh_lines v2)) (gLi_post (gSh_lines v2)) (gLi_length (gSh_lines v2)) ++ W_Pl (z_g x) a3 o3 (gPl_ints v3) (gPl_seconds v3) (gPl_engines v3) (gPl_wheels v3)) C (c_Se_isSafeByPlan_other (z_l x) (z_g x) a0 o0 ((gSe_base v0), ((r8.1), (r8.2.1), ((r8.2.2.1), (r8.2.2.2.1), (r8.2.2.2.2.1), (r8.2.2.2.2.2))), ((upd (s2.2.2.2.2.2.2.2) 10 (s2.1)), (r1.2.1), (r1.2.2))) a3 o3 v3 p1 r9 hr9) eX6_greatestWind_42 MX6_66 ⟨0, 6, _, _, rfl, rfl, rfl⟩ [0, 1, 2, 3, 4, 5, 6, 7, 8, 9, 10, 11, 12, 13, 14, 15, 25, 26, 27, 28] rfl rfl rfl rfl [16, 17, 18, 19, 20, 21, 22, 23, 24] rfl ⟨rfl, rfl, rfl, rfl, rfl, rfl, rfl, rfl, rfl, trivial⟩ 29 rfl rfl rfl rfl rfl rfl (fun zb10 => ?_)
        refine r_if_eq C eX6_greatestWind_45 (fun c11 => ?_) (fun c11 => ?_)
        · rw [if_pos c11] at hbL6
          refine r_iinc C (v := ((s2.1) + (-1))) [(5, .int ((s2.1) + (-1))), (0, .ref (a0 o0)), (2, .ref (a2 o2)), (3, .ref (a3 o3)), (4, .int p1)] eX6_greatestWind_51 4 rfl rfl (by decide) rfl ?_
          refine r_goto C eX6_greatestWind_54 ?_
          refine r_sub (lv' := [(0, .ref (a0 o0)), (2, .ref (a2 o2)), (3, .ref (a3 o3)), (4, .int p1), (5, .int ((s2.1) + (-1)))]) [1, 2, 3, 4, 0] rfl ?_
          have hc := ihL6 (((s2.1) + (-1)), (r9.2.1), (r9.2.2.1), (r9.2.2.2), (r8.2.2.2.1), (r8.2.2.2.2.1), (r8.2.2.2.2.2), (upd (s2.2.2.2.2.2.2.2) 10 (s2.1))) hbL6
          exact hc
        · rw [if_neg c11] at hbL6
          refine r_iload C eX6_greatestWind_48 4 rfl ?_
          obtain rfl := Option.some.inj (show some (Sum.inl (((s2.1), (r9.2.1), (r9.2.2.1), (r9.2.2.2), (r8.2.2.2.1), (r8.2.2.2.2.1), (r8.2.2.2.2.2), (upd (s2.2.2.2.2.2.2.2) 10 (s2.1)), (r1.2.1), (r1.2.2)) : Int32 × (Nat → Int32) × Int64 × (Nat → Int32) × (Nat → Int32) × (Nat → Int32) × (Nat → Int32) × (Nat → Int32) × (Nat → Int32) × (Nat → Int32))) = some _ from hbL6)
          obtain rfl := Option.some.inj (show some (((s2.1), (r9.2.1), (r9.2.2.1), (r9.2.2.2), (r8.2.2.2.1), (r8.2.2.2.2.1), (r8.2.2.2.2.2), (upd (s2.2.2.2.2.2.2.2) 10 (s2.1)), (r1.2.1), (r1.2.2)) : Int32 × (Nat → Int32) × Int64 × (Nat → Int32) × (Nat → Int32) × (Nat → Int32) × (Nat → Int32) × (Nat → Int32) × (Nat → Int32) × (Nat → Int32)) = some _ from hf)
          exact hret _ _ _ eX6_greatestWind_50
  refine r_sub (lv' := [(0, .ref (a0 o0)), (2, .ref (a2 o2)), (3, .ref (a3 o3)), (4, .int p1), (5, .int 99)]) [1, 3, 4, 5, 0] rfl ?_
  have hc := L6 LF (99, (gSh_ints (gSe_probe v0)), (gSh_harm (gSe_probe v0)), (gLi_fast (gSh_lines (gSe_probe v0))), (gLi_place (gSh_lines (gSe_probe v0))), (gLi_post (gSh_lines (gSe_probe v0))), (gLi_length (gSh_lines (gSe_probe v0))), (r1.1)) h4
  exact hc
