theorem eX6_leastAstern_0 : zd 1 cX6_leastAstern 0 1 (.aload_n 0) := ⟨by decide +kernel, rfl⟩
theorem eX6_leastAstern_1 : zd 3 cX6_leastAstern 1 4 (.getfield 12) := ⟨by decide +kernel, rfl⟩
theorem eX6_leastAstern_4 : zd 1 cX6_leastAstern 4 5 (.aload_n 2) := ⟨by decide +kernel, rfl⟩
theorem eX6_leastAstern_5 : zd 3 cX6_leastAstern 5 8 (.invokevirtual 28) := ⟨by decide +kernel, rfl⟩
theorem eX6_leastAstern_8 : zd 1 cX6_leastAstern 8 9 (.iconst 0) := ⟨by decide +kernel, rfl⟩
theorem eX6_leastAstern_9 : zd 1 cX6_leastAstern 9 10 (.istore_n 3) := ⟨by decide +kernel, rfl⟩
theorem eX6_leastAstern_10 : zd 1 cX6_leastAstern 10 11 (.iload_n 3) := ⟨by decide +kernel, rfl⟩
theorem eX6_leastAstern_11 : zd 2 cX6_leastAstern 11 13 (.bipush 120) := ⟨by decide +kernel, rfl⟩
theorem eX6_leastAstern_13 : zdi cX6_leastAstern 13 16 56 (.if_icmp .gt) := ⟨43, by decide +kernel, rfl, by decide⟩
theorem eX6_leastAstern_16 : zd 1 cX6_leastAstern 16 17 (.aload_n 0) := ⟨by decide +kernel, rfl⟩
theorem eX6_leastAstern_17 : zd 3 cX6_leastAstern 17 20 (.getfield 12) := ⟨by decide +kernel, rfl⟩
theorem eX6_leastAstern_20 : zd 3 cX6_leastAstern 20 23 (.getfield 32) := ⟨by decide +kernel, rfl⟩
theorem eX6_leastAstern_23 : zd 1 cX6_leastAstern 23 24 (.aload_n 2) := ⟨by decide +kernel, rfl⟩
theorem eX6_leastAstern_24 : zd 3 cX6_leastAstern 24 27 (.getfield 32) := ⟨by decide +kernel, rfl⟩
theorem eX6_leastAstern_27 : zd 1 cX6_leastAstern 27 28 (.lcmp) := ⟨by decide +kernel, rfl⟩
theorem eX6_leastAstern_28 : zdi cX6_leastAstern 28 31 56 (.ifCond .ne) := ⟨28, by decide +kernel, rfl, by decide⟩
theorem eX6_leastAstern_31 : zd 1 cX6_leastAstern 31 32 (.aload_n 0) := ⟨by decide +kernel, rfl⟩
theorem eX6_leastAstern_32 : zd 1 cX6_leastAstern 32 33 (.aload_n 1) := ⟨by decide +kernel, rfl⟩
theorem eX6_leastAstern_33 : zd 3 cX6_leastAstern 33 36 (.invokevirtual 36) := ⟨by decide +kernel, rfl⟩
theorem eX6_leastAstern_36 : zdi cX6_leastAstern 36 39 41 (.ifCond .eq) := ⟨5, by decide +kernel, rfl, by decide⟩
theorem eX6_leastAstern_39 : zd 1 cX6_leastAstern 39 40 (.iload_n 3) := ⟨by decide +kernel, rfl⟩
theorem eX6_leastAstern_40 : zd 1 cX6_leastAstern 40 41 (.ireturn) := ⟨by decide +kernel, rfl⟩
theorem eX6_leastAstern_41 : zd 1 cX6_leastAstern 41 42 (.aload_n 0) := ⟨by decide +kernel, rfl⟩
theorem eX6_leastAstern_42 : zd 3 cX6_leastAstern 42 45 (.getfield 12) := ⟨by decide +kernel, rfl⟩
theorem eX6_leastAstern_45 : zd 1 cX6_leastAstern 45 46 (.aload_n 1) := ⟨by decide +kernel, rfl⟩
theorem eX6_leastAstern_46 : zd 3 cX6_leastAstern 46 49 (.invokevirtual 40) := ⟨by decide +kernel, rfl⟩
theorem eX6_leastAstern_49 : zd 1 cX6_leastAstern 49 50 (.pop) := ⟨by decide +kernel, rfl⟩
theorem eX6_leastAstern_50 : zd 3 cX6_leastAstern 50 53 (.iinc 3 1) := ⟨by decide +kernel, rfl⟩
theorem eX6_leastAstern_53 : zdi cX6_leastAstern 53 56 10 (.goto) := ⟨(-43), by decide +kernel, rfl, by decide⟩
theorem eX6_leastAstern_56 : zd 1 cX6_leastAstern 56 57 (.iconst (-1)) := ⟨by decide +kernel, rfl⟩
theorem eX6_leastAstern_57 : zd 1 cX6_leastAstern 57 58 (.ireturn) := ⟨by decide +kernel, rfl⟩
theorem MX6_36 : zlV RX6 36 yX6_stopsSafely cX6_stopsSafely 3 ((Option.some FieldType.boolean)) 1 := ⟨q893, q895, qs19, q9, q896, by decide, by decide, by decide +kernel⟩
noncomputable def fB_Se_leastAstern_10 (v0 : tSe) (v1 : tQu) (v2 : tSh) (r1 : (Nat → Int32) × Int64 × (Nat → Int32) × (Nat → Int32) × (Nat → Int32) × (Nat → Int32)) (ih : (Int32 × (Nat → Int32) × Int64 × (Nat → Int32) × (Nat → Int32) × Int64 × (Nat → Int32) × (Nat → Int32) × (Nat → Int32) × (Nat → Int32)) → Option ((Int32 × (Nat → Int32) × Int64 × (Nat → Int32) × (Nat → Int32) × (Nat → Int32) × (Nat → Int32) × (Nat → Int32) × Int64 × (Nat → Int32) × (Nat → Int32) × (Nat → Int32) × (Nat → Int32)) ⊕ (Int32 × (Nat → Int32) × Int64 × (Nat → Int32) × (Nat → Int32) × Int64 × (Nat → Int32) × (Nat → Int32) × (Nat → Int32) × (Nat → Int32)))) (s2 : Int32 × (Nat → Int32) × Int64 × (Nat → Int32) × (Nat → Int32) × Int64 × (Nat → Int32) × (Nat → Int32) × (Nat → Int32) × (Nat → Int32)) : Option ((Int32 × (Nat → Int32) × Int64 × (Nat → Int32) × (Nat → Int32) × (Nat → Int32) × (Nat → Int32) × (Nat → Int32) × Int64 × (Nat → Int32) × (Nat → Int32) × (Nat → Int32) × (Nat → Int32)) ⊕ (Int32 × (Nat → Int32) × Int64 × (Nat → Int32) × (Nat → Int32) × Int64 × (Nat → Int32) × (Nat → Int32) × (Nat → Int32) × (Nat → Int32))) := (if 120 < (s2.1) then (some (Sum.inr ((s2.1), (s2.2.1), (s2.2.2.1), (s2.2.2.2.1), (s2.2.2.2.2.1), (s2.2.2.2.2.2.1), (s2.2.2.2.2.2.2.1), (s2.2.2.2.2.2.2.2.1), (s2.2.2.2.2.2.2.2.2.1), (s2.2.2.2.2.2.2.2.2.2)))) else (if (s2.2.2.1) = (gSh_harm v2) then (Option.bind (f_Se_stopsSafely (((s2.2.1), (s2.2.2.1), ((s2.2.2.2.1), (r1.2.2.2.1), (r1.2.2.2.2.1), (r1.2.2.2.2.2))), ((s2.2.2.2.2.1), (s2.2.2.2.2.2.1), ((s2.2.2.2.2.2.2.1), (s2.2.2.2.2.2.2.2.1), (s2.2.2.2.2.2.2.2.2.1), (s2.2.2.2.2.2.2.2.2.2))), (gSe_other v0)) v1) (fun (r9 : Int32 × (Nat → Int32) × Int64 × (Nat → Int32) × (Nat → Int32) × (Nat → Int32) × (Nat → Int32)) => (if (r9.1) = 0 then (Option.bind (f_Sh_passSecond ((s2.2.1), (s2.2.2.1), ((s2.2.2.2.1), (r1.2.2.2.1), (r1.2.2.2.2.1), (r1.2.2.2.2.2))) v1) (fun (r12 : Int32 × (Nat → Int32) × Int64 × (Nat → Int32)) => (ih (((s2.1) + 1), (r12.2.1), (r12.2.2.1), (r12.2.2.2), (r9.2.1), (r9.2.2.1), (r9.2.2.2.1), (r9.2.2.2.2.1), (r9.2.2.2.2.2.1), (r9.2.2.2.2.2.2))))) else (some (Sum.inl ((s2.1), (s2.2.1), (s2.2.2.1), (s2.2.2.2.1), (r1.2.2.2.1), (r1.2.2.2.2.1), (r1.2.2.2.2.2), (r9.2.1), (r9.2.2.1), (r9.2.2.2.1), (r9.2.2.2.2.1), (r9.2.2.2.2.2.1), (r9.2.2.2.2.2.2))))))) else (some (Sum.inr ((s2.1), (s2.2.1), (s2.2.2.1), (s2.2.2.2.1), (s2.2.2.2.2.1), (s2.2.2.2.2.2.1), (s2.2.2.2.2.2.2.1), (s2.2.2.2.2.2.2.2.1), (s2.2.2.2.2.2.2.2.2.1), (s2.2.2.2.2.2.2.2.2.2))))))
noncomputable def f_Se_leastAstern (v0 : tSe) (v1 : tQu) (v2 : tSh)  : Option (Int32 × (Nat → Int32) × Int64 × (Nat → Int32) × (Nat → Int32) × (Nat → Int32) × (Nat → Int32) × (Nat → Int32) × Int64 × (Nat → Int32) × (Nat → Int32) × (Nat → Int32) × (Nat → Int32)) := (Option.bind (f_Sh_copyFrom (gSe_base v0) v2) (fun (r1 : (Nat → Int32) × Int64 × (Nat → Int32) × (Nat → Int32) × (Nat → Int32) × (Nat → Int32)) => (Option.bind (lp (fB_Se_leastAstern_10 v0 v1 v2 r1) LF (0, (r1.1), (r1.2.1), (r1.2.2.1), (gSh_ints (gSe_probe v0)), (gSh_harm (gSe_probe v0)), (gLi_fast (gSh_lines (gSe_probe v0))), (gLi_place (gSh_lines (gSe_probe v0))), (gLi_post (gSh_lines (gSe_probe v0))), (gLi_length (gSh_lines (gSe_probe v0))))) (fun (q3 : (Int32 × (Nat → Int32) × Int64 × (Nat → Int32) × (Nat → Int32) × (Nat → Int32) × (Nat → Int32) × (Nat → Int32) × Int64 × (Nat → Int32) × (Nat → Int32) × (Nat → Int32) × (Nat → Int32)) ⊕ (Int32 × (Nat → Int32) × Int64 × (Nat → Int32) × (Nat → Int32) × Int64 × (Nat → Int32) × (Nat → Int32) × (Nat → Int32) × (Nat → Int32))) => Sum.elim (fun r => (some r)) (fun (s2e : Int32 × (Nat → Int32) × Int64 × (Nat → Int32) × (Nat → Int32) × Int64 × (Nat → Int32) × (Nat → Int32) × (Nat → Int32) × (Nat → Int32)) => (some ((-1), (s2e.2.1), (s2e.2.2.1), (s2e.2.2.2.1), (r1.2.2.2.1), (r1.2.2.2.2.1), (r1.2.2.2.2.2), (s2e.2.2.2.2.1), (s2e.2.2.2.2.2.1), (s2e.2.2.2.2.2.2.1), (s2e.2.2.2.2.2.2.2.1), (s2e.2.2.2.2.2.2.2.2.1), (s2e.2.2.2.2.2.2.2.2.2)))) q3))))
abbrev rm_Se_leastAstern : Room := { frames := 5, cells := 0, slots := 0, locals := 124 }
set_option maxHeartbeats 4000000 in
set_option maxRecDepth 100000 in
theorem c_Se_leastAstern (l : Launch) (g : zGl) (a0 : Nat → Nat) (o0 : Nat) (v0 : tSe) (a1 : Nat → Nat) (o1 : Nat) (v1 : tQu) (a2 : Nat → Nat) (o2 : Nat) (v2 : tSh)  (out : Int32 × (Nat → Int32) × Int64 × (Nat → Int32) × (Nat → Int32) × (Nat → Int32) × (Nat → Int32) × (Nat → Int32) × Int64 × (Nat → Int32) × (Nat → Int32) × (Nat → Int32) × (Nat → Int32)) (hf : f_Se_leastAstern v0 v1 v2 = some out) : zMi l yX6_leastAstern cX6_leastAstern 4 rm_Se_leastAstern g [.ref (a0 o0), .ref (a1 o1), .ref (a2 o2)] (W_Se g a0 o0 (gSh_ints (gSe_base v0)) (gSh_harm (gSe_base v0)) (gLi_fast (gSh_lines (gSe_base v0))) (gLi_place (gSh_lines (gSe_base v0))) (gLi_post (gSh_lines (gSe_base v0))) (gLi_length (gSh_lines (gSe_base v0))) (gSh_ints (gSe_probe v0)) (gSh_harm (gSe_probe v0)) (gLi_fast (gSh_lines (gSe_probe v0))) (gLi_place (gSh_lines (gSe_probe v0))) (gLi_post (gSh_lines (gSe_probe v0))) (gLi_length (gSh_lines (gSe_probe v0))) (gQu_ints (gSe_other v0)) (gQu_places (gSe_other v0)) (gQu_strengths (gSe_other v0)) ++ W_Qu g a1 o1 (gQu_ints v1) (gQu_places v1) (gQu_strengths v1) ++ W_Sh g a2 o2 (gSh_ints v2) (gSh_harm v2) (gLi_fast (gSh_lines v2)) (gLi_place (gSh_lines v2)) (gLi_post (gSh_lines v2)) (gLi_length (gSh_lines v2))) (out.1) (W_Se g a0 o0 (out.2.1) (out.2.2.1) (out.2.2.2.1) (out.2.2.2.2.1) (out.2.2.2.2.2.1) (out.2.2.2.2.2.2.1) (out.2.2.2.2.2.2.2.1) (out.2.2.2.2.2.2.2.2.1) (out.2.2.2.2.2.2.2.2.2.1) (out.2.2.2.2.2.2.2.2.2.2.1) (out.2.2.2.2.2.2.2.2.2.2.2.1) (out.2.2.2.2.2.2.2.2.2.2.2.2) (gQu_ints (gSe_other v0)) (gQu_places (gSe_other v0)) (gQu_strengths (gSe_other v0)) ++ W_Qu g a1 o1 (gQu_ints v1) (gQu_places v1) (gQu_strengths v1) ++ W_Sh g a2 o2 (gSh_ints v2) (gSh_harm v2) (gLi_fast (gSh_lines v2)) (gLi_place (gSh_lines v2)) (gLi_post (gSh_lines v2)) (gLi_length (gSh_lines v2))) := by
  refine zMi_of (lv := [(0, .ref (a0 o0)), (1, .ref (a1 o1)), (2, .ref (a2 o2))]) (by decide) (Nat.le_of_ble_eq_true rfl) rfl (fun x hl hg C hret => ?_)
  subst hl; subst hg
  rw [f_Se_leastAstern] at hf
  refine r_aload_n C eX6_leastAstern_0 0 rfl rfl ?_
  refine r_get (v := .ref (a0 (o0 + 1))) C eX6_leastAstern_1 FX6_12 0 rfl rfl ?_
  refine r_aload_n C eX6_leastAstern_4 2 rfl rfl ?_
  obtain ⟨r1, hr1, hf⟩ := zbind hf
  refine r_V_v (ws' := W_Se (z_g x) a0 o0 (r1.1) (r1.2.1) (r1.2.2.1) (r1.2.2.2.1) (r1.2.2.2.2.1) (r1.2.2.2.2.2) (gSh_ints (gSe_probe v0)) (gSh_harm (gSe_probe v0)) (gLi_fast (gSh_lines (gSe_probe v0))) (gLi_place (gSh_lines (gSe_probe v0))) (gLi_post (gSh_lines (gSe_probe v0))) (gLi_length (gSh_lines (gSe_probe v0))) (gQu_ints (gSe_other v0)) (gQu_places (gSe_other v0)) (gQu_strengths (gSe_other v0)) ++ W_Qu (z_g x) a1 o1 (gQu_ints v1) (gQu_places v1) (gQu_strengths v1) ++ W_Sh (z_g x) a2 o2 (gSh_ints v2) (gSh_harm v2) (gLi_fast (gSh_lines v2)) (gLi_place (gSh_lines v2)) (gLi_post (gSh_lines v2)) (gLi_length (gSh_lines v2))) C (c_Sh_copyFrom (z_l x) (z_g x) a0 (o0 + 1) (gSe_base v0) a2 o2 v2  r1 hr1) eX6_leastAstern_5 MX6_28 ⟨0, 7, _, _, rfl, rfl, rfl⟩ [1, 2, 3, 4, 5, 6, 19, 20, 21, 22, 23, 24] rfl rfl rfl rfl [0, 7, 8, 9, 10, 11, 12, 13, 14, 15, 16, 17, 18] rfl ⟨rfl, rfl, rfl, rfl, rfl, rfl, rfl, rfl, rfl, rfl, rfl, rfl, rfl, trivial⟩ 25 rfl rfl rfl rfl rfl rfl ?_
  refine r_iconst C (v := 0) eX6_leastAstern_8 (by decide) ?_
  refine r_istore_n C [(3, .int 0), (0, .ref (a0 o0)), (1, .ref (a1 o1)), (2, .ref (a2 o2))] eX6_leastAstern_9 rfl (by decide) rfl ?_
  obtain ⟨q3, h4, hf⟩ := zbind hf
  have J5 : ∀ s2e : Int32 × (Nat → Int32) × Int64 × (Nat → Int32) × (Nat → Int32) × Int64 × (Nat → Int32) × (Nat → Int32) × (Nat → Int32) × (Nat → Int32), q3 = Sum.inr s2e → vV x 4 0 0 (W_Se (z_g x) a0 o0 (s2e.2.1) (s2e.2.2.1) (s2e.2.2.2.1) (r1.2.2.2.1) (r1.2.2.2.2.1) (r1.2.2.2.2.2) (s2e.2.2.2.2.1) (s2e.2.2.2.2.2.1) (s2e.2.2.2.2.2.2.1) (s2e.2.2.2.2.2.2.2.1) (s2e.2.2.2.2.2.2.2.2.1) (s2e.2.2.2.2.2.2.2.2.2) (gQu_ints (gSe_other v0)) (gQu_places (gSe_other v0)) (gQu_strengths (gSe_other v0)) ++ W_Qu (z_g x) a1 o1 (gQu_ints v1) (gQu_places v1) (gQu_strengths v1) ++ W_Sh (z_g x) a2 o2 (gSh_ints v2) (gSh_harm v2) (gLi_fast (gSh_lines v2)) (gLi_place (gSh_lines v2)) (gLi_post (gSh_lines v2)) (gLi_length (gSh_lines v2))) 56 [] [] := by
    intro s2e hs
    subst hs
    rw [Sum.elim_inr] at hf
    refine r_iconst C (v := (-1)) eX6_leastAstern_56 (by decide) ?_
    obtain rfl := Option.some.inj (show some (((-1), (s2e.2.1), (s2e.2.2.1), (s2e.2.2.2.1), (r1.2.2.2.1), (r1.2.2.2.2.1), (r1.2.2.2.2.2), (s2e.2.2.2.2.1), (s2e.2.2.2.2.2.1), (s2e.2.2.2.2.2.2.1), (s2e.2.2.2.2.2.2.2.1), (s2e.2.2.2.2.2.2.2.2.1), (s2e.2.2.2.2.2.2.2.2.2)) : Int32 × (Nat → Int32) × Int64 × (Nat → Int32) × (Nat → Int32) × (Nat → Int32) × (Nat → Int32) × (Nat → Int32) × Int64 × (Nat → Int32) × (Nat → Int32) × (Nat → Int32) × (Nat → Int32)) = some _ from hf)
    exact hret _ _ _ eX6_leastAstern_57
  have L6 : ∀ (nL6 : Nat) (s2 : Int32 × (Nat → Int32) × Int64 × (Nat → Int32) × (Nat → Int32) × Int64 × (Nat → Int32) × (Nat → Int32) × (Nat → Int32) × (Nat → Int32)), lp (fB_Se_leastAstern_10 v0 v1 v2 r1) nL6 s2 = some q3 → vV x 4 0 0 (W_Se (z_g x) a0 o0 (s2.2.1) (s2.2.2.1) (s2.2.2.2.1) (r1.2.2.2.1) (r1.2.2.2.2.1) (r1.2.2.2.2.2) (s2.2.2.2.2.1) (s2.2.2.2.2.2.1) (s2.2.2.2.2.2.2.1) (s2.2.2.2.2.2.2.2.1) (s2.2.2.2.2.2.2.2.2.1) (s2.2.2.2.2.2.2.2.2.2) (gQu_ints (gSe_other v0)) (gQu_places (gSe_other v0)) (gQu_strengths (gSe_other v0)) ++ W_Qu (z_g x) a1 o1 (gQu_ints v1) (gQu_places v1) (gQu_strengths v1) ++ W_Sh (z_g x) a2 o2 (gSh_ints v2) (gSh_harm v2) (gLi_fast (gSh_lines v2)) (gLi_place (gSh_lines v2)) (gLi_post (gSh_lines v2)) (gLi_length (gSh_lines v2))) 10 [(0, .ref (a0 o0)), (1, .ref (a1 o1)), (2, .ref (a2 o2)), (3, .int (s2.1))] [] := by
    intro nL6
    induction nL6 with
    | zero => intro s2 hq; cases hq
    | succ nL6 ihL6 =>
      intro s2 hbL6
      rw [lp_succ, fB_Se_leastAstern_10] at hbL6
      refine r_iload_n C eX6_leastAstern_10 3 rfl rfl ?_
      refine r_bipush C (v := 120) eX6_leastAstern_11 (by decide) ?_
      refine r_icmp_gt C eX6_leastAstern_13 (fun c7 => ?_) (fun c7 => ?_)
      · rw [if_pos c7] at hbL6
        obtain rfl := Option.some.inj hbL6
        refine r_sub (lv' := []) [] rfl ?_
        exact J5 _ rfl
      · rw [if_neg c7] at hbL6
        refine r_aload_n C eX6_leastAstern_16 0 rfl rfl ?_
        refine r_get (v := .ref (a0 (o0 + 1))) C eX6_leastAstern_17 FX6_12 0 rfl rfl ?_
        refine r_get (v := .long (s2.2.2.1)) C eX6_leastAstern_20 FX6_32 1 rfl rfl ?_
        refine r_aload_n C eX6_leastAstern_23 2 rfl rfl ?_
        refine r_get (v := .long (gSh_harm v2)) C eX6_leastAstern_24 FX6_32 19 rfl rfl ?_
        refine r_lcmp_ne C eX6_leastAstern_27 eX6_leastAstern_28 (fun c8 => ?_) (fun c8 => ?_)
        · rw [if_neg c8] at hbL6
          obtain rfl := Option.some.inj hbL6
          refine r_sub (lv' := []) [] rfl ?_
          exact J5 _ rfl
        · rw [if_pos c8] at hbL6
          refine r_aload_n C eX6_leastAstern_31 0 rfl rfl ?_
          refine r_aload_n C eX6_leastAstern_32 1 rfl rfl ?_
          obtain ⟨r9, hr9, hbL6⟩ := zbind hbL6
          refine r_V_z (ws' := W_Se (z_g x) a0 o0 (s2.2.1) (s2.2.2.1) (s2.2.2.2.1) (r1.2.2.2.1) (r1.2.2.2.2.1) (r1.2.2.2.2.2) (r9.2.1) (r9.2.2.1) (r9.2.2.2.1) (r9.2.2.2.2.1) (r9.2.2.2.2.2.1) (r9.2.2.2.2.2.2) (gQu_ints (gSe_other v0)) (gQu_places (gSe_other v0)) (gQu_strengths (gSe_other v0)) ++ W_Qu (z_g x) a1 o1 (gQu_ints v1) (gQu_places v1) (gQu_strengths v1) ++ W_Sh (z_g x) a2 o2 (gSh_ints v2) (gSh_harm v2) (gLi_fast (gSh_lines v2)) (gLi_place (gSh_lines v2)) (gLi_post (gSh_lines v2)) (gLi_length (gSh_lines v2))) C (c_Se_stopsSafely (z_l x) (z_g x) a0 o0 (((s2.2.1), (s2.2.2.1), ((s2.2.2.2.1), (r1.2.2.2.1), (r1.2.2.2.2.1), (r1.2.2.2.2.2))), ((s2.2.2.2.2.1), (s2.2.2.2.2.2.1), ((s2.2.2.2.2.2.2.1), (s2.2.2.2.2.2.2.2.1), (s2.2.2.2.2.2.2.2.2.1), (s2.2.2.2.2.2.2.2.2.2))), (gSe_other v0)) a1 o1 v1  r9 hr9) eX6_leastAstern_33 MX6_36 ⟨0, 6, _, _, rfl, rfl, rfl⟩ [0, 1, 2, 3, 4, 5, 6, 7, 8, 9, 10, 11, 12, 13, 14, 15, 16, 17, 18] rfl rfl rfl rfl [19, 20, 21, 22, 23, 24] rfl ⟨rfl, rfl, rfl, rfl, rfl, rfl, trivial⟩ 25 rfl rfl rfl rfl rfl rfl (fun zb10 => ?_)
          refine r_if_eq C eX6_leastAstern_36 (fun c11 => ?_) (fun c11 => ?_)
          · rw [if_pos c11] at hbL6
            refine r_aload_n C eX6_leastAstern_41 0 rfl rfl ?_
            refine r_get (v := .ref (a0 (o0 + 1))) C eX6_leastAstern_42 FX6_12 0 rfl rfl ?_
            refine r_aload_n C eX6_leastAstern_45 1 rfl rfl ?_
            obtain ⟨r12, hr12, hbL6⟩ := zbind hbL6
            refine r_V_i (ws' := W_Se (z_g x) a0 o0 (r12.2.1) (r12.2.2.1) (r12.2.2.2) (r1.2.2.2.1) (r1.2.2.2.2.1) (r1.2.2.2.2.2) (r9.2.1) (r9.2.2.1) (r9.2.2.2.1) (r9.2.2.2.2.1) (r9.2.2.2.2.2.1) (r9.2.2.2.2.2.2) (gQu_ints (gSe_other v0)) (gQu_places (gSe_other v0)) (gQu_strengths (gSe_other v0)) ++ W_Qu (z_g x) a1 o1 (gQu_ints v1) (gQu_places v1) (gQu_strengths v1) ++ W_Sh (z_g x) a2 o2 (gSh_ints v2) (gSh_harm v2) (gLi_fast (gSh_lines v2)) (gLi_place (gSh_lines v2)) (gLi_post (gSh_lines v2)) (gLi_length (gSh_lines v2))) C (c_Sh_passSecond (z_l x) (z_g x) a0 (o0 + 1) ((s2.2.1), (s2.2.2.1), ((s2.2.2.2.1), (r1.2.2.2.1), (r1.2.2.2.2.1), (r1.2.2.2.2.2))) a1 o1 v1  r12 hr12) eX6_leastAstern_46 MX6_40 ⟨0, 7, _, _, rfl, rfl, rfl⟩ [1, 2, 3, 4, 5, 6, 16, 17, 18] rfl rfl rfl rfl [0, 7, 8, 9, 10, 11, 12, 13, 14, 15, 19, 20, 21, 22, 23, 24] rfl ⟨rfl, rfl, rfl, rfl, rfl, rfl, rfl, rfl, rfl, rfl, rfl, rfl, rfl, rfl, rfl, rfl, trivial⟩ 25 rfl rfl rfl rfl rfl rfl ?_
            refine r_pop C eX6_leastAstern_49 rfl ?_
            refine r_iinc C (v := ((s2.1) + 1)) [(3, .int ((s2.1) + 1)), (0, .ref (a0 o0)), (1, .ref (a1 o1)), (2, .ref (a2 o2))] eX6_leastAstern_50 3 rfl rfl (by decide) rfl ?_
            refine r_goto C eX6_leastAstern_53 ?_
            refine r_sub (lv' := [(0, .ref (a0 o0)), (1, .ref (a1 o1)), (2, .ref (a2 o2)), (3, .int ((s2.1) + 1))]) [1, 2, 3, 0] rfl ?_
            have hc := ihL6 (((s2.1) + 1), (r12.2.1), (r12.2.2.1), (r12.2.2.2), (r9.2.1), (r9.2.2.1), (r9.2.2.2.1), (r9.2.2.2.2.1), (r9.2.2.2.2.2.1), (r9.2.2.2.2.2.2)) hbL6
            exact hc
          · rw [if_neg c11] at hbL6
            refine r_iload_n C eX6_leastAstern_39 3 rfl rfl ?_
            obtain rfl := Option.some.inj (show some (Sum.inl (((s2.1), (s2.2.1), (s2.2.2.1), (s2.2.2.2.1), (r1.2.2.2.1), (r1.2.2.2.2.1), (r1.2.2.2.2.2), (r9.2.1), (r9.2.2.1), (r9.2.2.2.1), (r9.2.2.2.2.1), (r9.2.2.2.2.2.1), (r9.2.2.2.2.2.2)) : Int32 × (Nat → Int32) × Int64 × (Nat → Int32) × (Nat → Int32) × (Nat → Int32) × (Nat → Int32) × (Nat → Int32) × Int64 × (Nat → Int32) × (Nat → Int32) × (Nat → Int32) × (Nat → Int32))) = some _ from hbL6)
            obtain rfl := Option.some.inj (show some (((s2.1), (s2.2.1), (s2.2.2.1), (s2.2.2.2.1), (r1.2.2.2.1), (r1.2.2.2.2.1), (r1.2.2.2.2.2), (r9.2.1), (r9.2.2.1), (r9.2.2.2.1), (r9.2.2.2.2.1), (r9.2.2.2.2.2.1), (r9.2.2.2.2.2.2)) : Int32 × (Nat → Int32) × Int64 × (Nat → Int32) × (Nat → Int32) × (Nat → Int32) × (Nat → Int32) × (Nat → Int32) × Int64 × (Nat → Int32) × (Nat → Int32) × (Nat → Int32) × (Nat → Int32)) = some _ from hf)
            exact hret _ _ _ eX6_leastAstern_40
  refine r_sub (lv' := [(0, .ref (a0 o0)), (1, .ref (a1 o1)), (2, .ref (a2 o2)), (3, .int 0)]) [1, 2, 3, 0] rfl ?_
  have hc := L6 LF (0, (r1.1), (r1.2.1), (r1.2.2.1), (gSh_ints (gSe_probe v0)), (gSh_harm (gSe_probe v0)), (gLi_fast (gSh_lines (gSe_probe v0))), (gLi_place (gSh_lines (gSe_probe v0))), (gLi_post (gSh_lines (gSe_probe v0))), (gLi_length (gSh_lines (gSe_probe v0)))) h4
  exact hc
