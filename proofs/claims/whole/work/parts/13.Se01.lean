theorem eX6_getsOff_0 : zd 1 cX6_getsOff 0 1 (.aload_n 0) := ⟨by decide +kernel, rfl⟩
theorem eX6_getsOff_1 : zd 3 cX6_getsOff 1 4 (.getfield 18) := ⟨by decide +kernel, rfl⟩
theorem eX6_getsOff_4 : zd 1 cX6_getsOff 4 5 (.aload_n 0) := ⟨by decide +kernel, rfl⟩
theorem eX6_getsOff_5 : zd 3 cX6_getsOff 5 8 (.getfield 12) := ⟨by decide +kernel, rfl⟩
theorem eX6_getsOff_8 : zd 3 cX6_getsOff 8 11 (.invokevirtual 28) := ⟨by decide +kernel, rfl⟩
theorem eX6_getsOff_11 : zd 1 cX6_getsOff 11 12 (.aload_n 0) := ⟨by decide +kernel, rfl⟩
theorem eX6_getsOff_12 : zd 3 cX6_getsOff 12 15 (.getfield 18) := ⟨by decide +kernel, rfl⟩
theorem eX6_getsOff_15 : zd 2 cX6_getsOff 15 17 (.bipush (-3)) := ⟨by decide +kernel, rfl⟩
theorem eX6_getsOff_17 : zd 3 cX6_getsOff 17 20 (.putfield 44) := ⟨by decide +kernel, rfl⟩
theorem eX6_getsOff_20 : zd 1 cX6_getsOff 20 21 (.aload_n 0) := ⟨by decide +kernel, rfl⟩
theorem eX6_getsOff_21 : zd 3 cX6_getsOff 21 24 (.getfield 18) := ⟨by decide +kernel, rfl⟩
theorem eX6_getsOff_24 : zd 1 cX6_getsOff 24 25 (.iconst 0) := ⟨by decide +kernel, rfl⟩
theorem eX6_getsOff_25 : zd 3 cX6_getsOff 25 28 (.putfield 48) := ⟨by decide +kernel, rfl⟩
theorem eX6_getsOff_28 : zd 1 cX6_getsOff 28 29 (.iconst 0) := ⟨by decide +kernel, rfl⟩
theorem eX6_getsOff_29 : zd 1 cX6_getsOff 29 30 (.istore_n 2) := ⟨by decide +kernel, rfl⟩
theorem eX6_getsOff_30 : zd 1 cX6_getsOff 30 31 (.iload_n 2) := ⟨by decide +kernel, rfl⟩
theorem eX6_getsOff_31 : zd 2 cX6_getsOff 31 33 (.bipush 120) := ⟨by decide +kernel, rfl⟩
theorem eX6_getsOff_33 : zdi cX6_getsOff 33 36 69 (.if_icmp .ge) := ⟨36, by decide +kernel, rfl, by decide⟩
theorem eX6_getsOff_36 : zd 1 cX6_getsOff 36 37 (.aload_n 0) := ⟨by decide +kernel, rfl⟩
theorem eX6_getsOff_37 : zd 3 cX6_getsOff 37 40 (.getfield 18) := ⟨by decide +kernel, rfl⟩
theorem eX6_getsOff_40 : zd 3 cX6_getsOff 40 43 (.getfield 32) := ⟨by decide +kernel, rfl⟩
theorem eX6_getsOff_43 : zd 1 cX6_getsOff 43 44 (.aload_n 0) := ⟨by decide +kernel, rfl⟩
theorem eX6_getsOff_44 : zd 3 cX6_getsOff 44 47 (.getfield 12) := ⟨by decide +kernel, rfl⟩
theorem eX6_getsOff_47 : zd 3 cX6_getsOff 47 50 (.getfield 32) := ⟨by decide +kernel, rfl⟩
theorem eX6_getsOff_50 : zd 1 cX6_getsOff 50 51 (.lcmp) := ⟨by decide +kernel, rfl⟩
theorem eX6_getsOff_51 : zdi cX6_getsOff 51 54 69 (.ifCond .ne) := ⟨18, by decide +kernel, rfl, by decide⟩
theorem eX6_getsOff_54 : zd 1 cX6_getsOff 54 55 (.aload_n 0) := ⟨by decide +kernel, rfl⟩
theorem eX6_getsOff_55 : zd 3 cX6_getsOff 55 58 (.getfield 18) := ⟨by decide +kernel, rfl⟩
theorem eX6_getsOff_58 : zd 1 cX6_getsOff 58 59 (.aload_n 1) := ⟨by decide +kernel, rfl⟩
theorem eX6_getsOff_59 : zd 3 cX6_getsOff 59 62 (.invokevirtual 40) := ⟨by decide +kernel, rfl⟩
theorem eX6_getsOff_62 : zd 1 cX6_getsOff 62 63 (.pop) := ⟨by decide +kernel, rfl⟩
theorem eX6_getsOff_63 : zd 3 cX6_getsOff 63 66 (.iinc 2 1) := ⟨by decide +kernel, rfl⟩
theorem eX6_getsOff_66 : zdi cX6_getsOff 66 69 30 (.goto) := ⟨(-36), by decide +kernel, rfl, by decide⟩
theorem eX6_getsOff_69 : zd 1 cX6_getsOff 69 70 (.aload_n 0) := ⟨by decide +kernel, rfl⟩
theorem eX6_getsOff_70 : zd 3 cX6_getsOff 70 73 (.getfield 18) := ⟨by decide +kernel, rfl⟩
theorem eX6_getsOff_73 : zd 3 cX6_getsOff 73 76 (.getfield 32) := ⟨by decide +kernel, rfl⟩
theorem eX6_getsOff_76 : zd 1 cX6_getsOff 76 77 (.aload_n 0) := ⟨by decide +kernel, rfl⟩
theorem eX6_getsOff_77 : zd 3 cX6_getsOff 77 80 (.getfield 12) := ⟨by decide +kernel, rfl⟩
theorem eX6_getsOff_80 : zd 3 cX6_getsOff 80 83 (.getfield 32) := ⟨by decide +kernel, rfl⟩
theorem eX6_getsOff_83 : zd 1 cX6_getsOff 83 84 (.lcmp) := ⟨by decide +kernel, rfl⟩
theorem eX6_getsOff_84 : zdi cX6_getsOff 84 87 91 (.ifCond .ne) := ⟨7, by decide +kernel, rfl, by decide⟩
theorem eX6_getsOff_87 : zd 1 cX6_getsOff 87 88 (.iconst 1) := ⟨by decide +kernel, rfl⟩
theorem eX6_getsOff_88 : zdi cX6_getsOff 88 91 92 (.goto) := ⟨4, by decide +kernel, rfl, by decide⟩
theorem eX6_getsOff_91 : zd 1 cX6_getsOff 91 92 (.iconst 0) := ⟨by decide +kernel, rfl⟩
theorem eX6_getsOff_92 : zd 1 cX6_getsOff 92 93 (.ireturn) := ⟨by decide +kernel, rfl⟩
theorem FX6_12 : zlF RX6 12 6 0 := ⟨(RX6, TX6, 3), rfl, by decide, q309, zin6⟩
theorem FX6_18 : zlF RX6 18 6 1 := ⟨(RX6, TX6, 3), rfl, by decide, q310, zin6⟩
theorem FX6_32 : zlF RX6 32 7 13 := ⟨(RX7, TX7, 18), rfl, by decide, q252, zin7⟩
theorem PX6_44 : zlP RX6 44 7 6 .int := ⟨(RX7, TX7, 18), tyX7, rfl, by decide, q239, zin7, tyX7_ok, nmX7, rfl, by decide +kernel⟩
theorem PX6_48 : zlP RX6 48 7 7 .int := ⟨(RX7, TX7, 18), tyX7, rfl, by decide, q242, zin7, tyX7_ok, nmX7, rfl, by decide +kernel⟩
theorem MX6_28 : zlV RX6 28 yX7_copyFrom cX7_copyFrom 3 (none) 1 := ⟨q892, q875, q876, q7, q877, by decide, by decide, by decide +kernel⟩
theorem MX6_40 : zlV RX6 40 yX7_passSecond cX7_passSecond 4 ((Option.some FieldType.int)) 1 := ⟨q897, q721, q722, q7, q723, by decide, by decide, by decide +kernel⟩
noncomputable def fB_Se_getsOff_30 (v0 : tSe) (v1 : tQu) (r1 : (Nat → Int32) × Int64 × (Nat → Int32) × (Nat → Int32) × (Nat → Int32) × (Nat → Int32)) (ih : (Int32 × (Nat → Int32) × Int64 × (Nat → Int32)) → Option (Int32 × (Nat → Int32) × Int64 × (Nat → Int32))) (s2 : Int32 × (Nat → Int32) × Int64 × (Nat → Int32)) : Option (Int32 × (Nat → Int32) × Int64 × (Nat → Int32)) := (if 120 ≤ (s2.1) then (some ((s2.1), (s2.2.1), (s2.2.2.1), (s2.2.2.2))) else (if (s2.2.2.1) = (gSh_harm (gSe_base v0)) then (Option.bind (f_Sh_passSecond (sSh_lines (sSh_harm (sSh_ints (gSe_probe v0) (s2.2.1)) (s2.2.2.1)) (sLi_length (sLi_post (sLi_place (sLi_fast (gSh_lines (gSe_probe v0)) (s2.2.2.2)) (r1.2.2.2.1)) (r1.2.2.2.2.1)) (r1.2.2.2.2.2))) v1) (fun (r9 : Int32 × (Nat → Int32) × Int64 × (Nat → Int32)) => (ih (((s2.1) + 1), (r9.2.1), (r9.2.2.1), (r9.2.2.2))))) else (some ((s2.1), (s2.2.1), (s2.2.2.1), (s2.2.2.2)))))
noncomputable def f_Se_getsOff (v0 : tSe) (v1 : tQu)  : Option (Int32 × (Nat → Int32) × Int64 × (Nat → Int32) × (Nat → Int32) × (Nat → Int32) × (Nat → Int32)) := (Option.bind (f_Sh_copyFrom (gSe_probe v0) (gSe_base v0)) (fun (r1 : (Nat → Int32) × Int64 × (Nat → Int32) × (Nat → Int32) × (Nat → Int32) × (Nat → Int32)) => (Option.bind (lp (fB_Se_getsOff_30 v0 v1 r1) LF (0, (upd (upd (r1.1) 6 (-3)) 7 0), (r1.2.1), (r1.2.2.1))) (fun (q3 : Int32 × (Nat → Int32) × Int64 × (Nat → Int32)) => (if (q3.2.2.1) = (gSh_harm (gSe_base v0)) then (some (1, (q3.2.1), (q3.2.2.1), (q3.2.2.2), (r1.2.2.2.1), (r1.2.2.2.2.1), (r1.2.2.2.2.2))) else (some (0, (q3.2.1), (q3.2.2.1), (q3.2.2.2), (r1.2.2.2.1), (r1.2.2.2.2.1), (r1.2.2.2.2.2))))))))
abbrev rm_Se_getsOff : Room := { frames := 4, cells := 0, slots := 0, locals := 102 }
set_option maxHeartbeats 4000000 in
set_option maxRecDepth 100000 in
theorem c_Se_getsOff (l : Launch) (g : zGl) (a0 : Nat → Nat) (o0 : Nat) (v0 : tSe) (a1 : Nat → Nat) (o1 : Nat) (v1 : tQu)  (out : Int32 × (Nat → Int32) × Int64 × (Nat → Int32) × (Nat → Int32) × (Nat → Int32) × (Nat → Int32)) (hf : f_Se_getsOff v0 v1 = some out) : zMz l yX6_getsOff cX6_getsOff 3 rm_Se_getsOff g [.ref (a0 o0), .ref (a1 o1)] (w_Se g a0 o0 v0 ++ w_Qu g a1 o1 v1) (out.1) (w_Se g a0 o0 (sSe_probe v0 (sSh_lines (sSh_harm (sSh_ints (gSe_probe v0) (out.2.1)) (out.2.2.1)) (sLi_length (sLi_post (sLi_place (sLi_fast (gSh_lines (gSe_probe v0)) (out.2.2.2.1)) (out.2.2.2.2.1)) (out.2.2.2.2.2.1)) (out.2.2.2.2.2.2)))) ++ w_Qu g a1 o1 v1) := by
  refine zMz_of (lv := [(0, .ref (a0 o0)), (1, .ref (a1 o1))]) (by decide) (Nat.le_of_ble_eq_true rfl) rfl (fun x hl hg C hret => ?_)
  subst hl; subst hg
  rw [f_Se_getsOff] at hf
  refine r_aload_n C eX6_getsOff_0 0 rfl rfl ?_
  refine r_get (v := .ref (a0 (o0 + 7))) C eX6_getsOff_1 FX6_18 0 rfl rfl ?_
  refine r_aload_n C eX6_getsOff_4 0 rfl rfl ?_
  refine r_get (v := .ref (a0 (o0 + 1))) C eX6_getsOff_5 FX6_12 0 rfl rfl ?_
  obtain ⟨r1, hr1, hf⟩ := zbind hf
  refine r_V_v (ws' := w_Se (z_g x) a0 o0 (sSe_probe v0 (sSh_lines (sSh_harm (sSh_ints (gSe_probe v0) (r1.1)) (r1.2.1)) (sLi_length (sLi_post (sLi_place (sLi_fast (gSh_lines (gSe_probe v0)) (r1.2.2.1)) (r1.2.2.2.1)) (r1.2.2.2.2.1)) (r1.2.2.2.2.2)))) ++ w_Qu (z_g x) a1 o1 v1) C (c_Sh_copyFrom (z_l x) (z_g x) a0 (o0 + 7) (gSe_probe v0) a0 (o0 + 1) (gSe_base v0)  r1 hr1) eX6_getsOff_8 MX6_28 ⟨0, 7, _, _, rfl, rfl, rfl⟩ [7, 8, 9, 10, 11, 12, 1, 2, 3, 4, 5, 6] rfl rfl rfl rfl rfl rfl rfl rfl rfl ?_
  refine r_aload_n C eX6_getsOff_11 0 rfl rfl ?_
  refine r_get (v := .ref (a0 (o0 + 7))) C eX6_getsOff_12 FX6_18 0 rfl rfl ?_
  refine r_bipush C (v := (-3)) eX6_getsOff_15 (by decide) ?_
  refine r_put (ws' := w_Se (z_g x) a0 o0 (sSe_probe v0 (sSh_lines (sSh_harm (sSh_ints (gSe_probe v0) (upd (r1.1) 6 (-3))) (r1.2.1)) (sLi_length (sLi_post (sLi_place (sLi_fast (gSh_lines (gSe_probe v0)) (r1.2.2.1)) (r1.2.2.2.1)) (r1.2.2.2.2.1)) (r1.2.2.2.2.2)))) ++ w_Qu (z_g x) a1 o1 v1) C eX6_getsOff_17 PX6_44 7 rfl rfl rfl (Nat.le_of_ble_eq_true rfl) rfl ?_
  refine r_aload_n C eX6_getsOff_20 0 rfl rfl ?_
  refine r_get (v := .ref (a0 (o0 + 7))) C eX6_getsOff_21 FX6_18 0 rfl rfl ?_
  refine r_iconst C (v := 0) eX6_getsOff_24 (by decide) ?_
  refine r_put (ws' := w_Se (z_g x) a0 o0 (sSe_probe v0 (sSh_lines (sSh_harm (sSh_ints (gSe_probe v0) (upd (upd (r1.1) 6 (-3)) 7 0)) (r1.2.1)) (sLi_length (sLi_post (sLi_place (sLi_fast (gSh_lines (gSe_probe v0)) (r1.2.2.1)) (r1.2.2.2.1)) (r1.2.2.2.2.1)) (r1.2.2.2.2.2)))) ++ w_Qu (z_g x) a1 o1 v1) C eX6_getsOff_25 PX6_48 7 rfl rfl rfl (Nat.le_of_ble_eq_true rfl) rfl ?_
  refine r_iconst C (v := 0) eX6_getsOff_28 (by decide) ?_
  refine r_istore_n C [(2, .int 0), (0, .ref (a0 o0)), (1, .ref (a1 o1))] eX6_getsOff_29 rfl (by decide) rfl ?_
  obtain ⟨q3, h4, hf⟩ := zbind hf
  have J5 : vV x 3 0 0 (w_Se (z_g x) a0 o0 (sSe_probe v0 (sSh_lines (sSh_harm (sSh_ints (gSe_probe v0) (q3.2.1)) (q3.2.2.1)) (sLi_length (sLi_post (sLi_place (sLi_fast (gSh_lines (gSe_probe v0)) (q3.2.2.2)) (r1.2.2.2.1)) (r1.2.2.2.2.1)) (r1.2.2.2.2.2)))) ++ w_Qu (z_g x) a1 o1 v1) 69 [(0, .ref (a0 o0))] [] := by
    refine r_aload_n C eX6_getsOff_69 0 rfl rfl ?_
    refine r_get (v := .ref (a0 (o0 + 7))) C eX6_getsOff_70 FX6_18 0 rfl rfl ?_
    refine r_get (v := .long (q3.2.2.1)) C eX6_getsOff_73 FX6_32 7 rfl rfl ?_
    refine r_aload_n C eX6_getsOff_76 0 rfl rfl ?_
    refine r_get (v := .ref (a0 (o0 + 1))) C eX6_getsOff_77 FX6_12 0 rfl rfl ?_
    refine r_get (v := .long (gSh_harm (gSe_base v0))) C eX6_getsOff_80 FX6_32 1 rfl rfl ?_
    refine r_lcmp_ne C eX6_getsOff_83 eX6_getsOff_84 (fun c10 => ?_) (fun c10 => ?_)
    · rw [if_neg c10] at hf
      refine r_iconst C (v := 0) eX6_getsOff_91 (by decide) ?_
      obtain rfl := Option.some.inj (show some ((0, (q3.2.1), (q3.2.2.1), (q3.2.2.2), (r1.2.2.2.1), (r1.2.2.2.2.1), (r1.2.2.2.2.2)) : Int32 × (Nat → Int32) × Int64 × (Nat → Int32) × (Nat → Int32) × (Nat → Int32) × (Nat → Int32)) = some _ from hf)
      exact hret _ _ _ eX6_getsOff_92 zB0
    · rw [if_pos c10] at hf
      refine r_iconst C (v := 1) eX6_getsOff_87 (by decide) ?_
      refine r_goto C eX6_getsOff_88 ?_
      obtain rfl := Option.some.inj (show some ((1, (q3.2.1), (q3.2.2.1), (q3.2.2.2), (r1.2.2.2.1), (r1.2.2.2.2.1), (r1.2.2.2.2.2)) : Int32 × (Nat → Int32) × Int64 × (Nat → Int32) × (Nat → Int32) × (Nat → Int32) × (Nat → Int32)) = some _ from hf)
      exact hret _ _ _ eX6_getsOff_92 zB1
  have L6 : ∀ (nL6 : Nat) (s2 : Int32 × (Nat → Int32) × Int64 × (Nat → Int32)), lp (fB_Se_getsOff_30 v0 v1 r1) nL6 s2 = some q3 → vV x 3 0 0 (w_Se (z_g x) a0 o0 (sSe_probe v0 (sSh_lines (sSh_harm (sSh_ints (gSe_probe v0) (s2.2.1)) (s2.2.2.1)) (sLi_length (sLi_post (sLi_place (sLi_fast (gSh_lines (gSe_probe v0)) (s2.2.2.2)) (r1.2.2.2.1)) (r1.2.2.2.2.1)) (r1.2.2.2.2.2)))) ++ w_Qu (z_g x) a1 o1 v1) 30 [(0, .ref (a0 o0)), (1, .ref (a1 o1)), (2, .int (s2.1))] [] := by
    intro nL6
    induction nL6 with
    | zero => intro s2 hq; cases hq
    | succ nL6 ihL6 =>
      intro s2 hbL6
      rw [lp_succ, fB_Se_getsOff_30] at hbL6
      refine r_iload_n C eX6_getsOff_30 2 rfl rfl ?_
      refine r_bipush C (v := 120) eX6_getsOff_31 (by decide) ?_
      refine r_icmp_ge C eX6_getsOff_33 (fun c7 => ?_) (fun c7 => ?_)
      · rw [if_pos c7] at hbL6
        obtain rfl := Option.some.inj hbL6
        refine r_sub (lv' := [(0, .ref (a0 o0))]) [0] rfl ?_
        exact J5
      · rw [if_neg c7] at hbL6
        refine r_aload_n C eX6_getsOff_36 0 rfl rfl ?_
        refine r_get (v := .ref (a0 (o0 + 7))) C eX6_getsOff_37 FX6_18 0 rfl rfl ?_
        refine r_get (v := .long (s2.2.2.1)) C eX6_getsOff_40 FX6_32 7 rfl rfl ?_
        refine r_aload_n C eX6_getsOff_43 0 rfl rfl ?_
        refine r_get (v := .ref (a0 (o0 + 1))) C eX6_getsOff_44 FX6_12 0 rfl rfl ?_
        refine r_get (v := .long (gSh_harm (gSe_base v0))) C eX6_getsOff_47 FX6_32 1 rfl rfl ?_
        refine r_lcmp_ne C eX6_getsOff_50 eX6_getsOff_51 (fun c8 => ?_) (fun c8 => ?_)
        · rw [if_neg c8] at hbL6
          obtain rfl := Option.some.inj hbL6
          refine r_sub (lv' := [(0, .ref (a0 o0))]) [0] rfl ?_
          exact J5
        · rw [if_pos c8] at hbL6
          refine r_aload_n C eX6_getsOff_54 0 rfl rfl ?_
          refine r_get (v := .ref (a0 (o0 + 7))) C eX6_getsOff_55 FX6_18 0 rfl rfl ?_
          refine r_aload_n C eX6_getsOff_58 1 rfl rfl ?_
          obtain ⟨r9, hr9, hbL6⟩ := zbind hbL6
          refine r_V_i (ws' := w_Se (z_g x) a0 o0 (sSe_probe v0 (sSh_lines (sSh_harm (sSh_ints (gSe_probe v0) (r9.2.1)) (r9.2.2.1)) (sLi_length (sLi_post (sLi_place (sLi_fast (gSh_lines (gSe_probe v0)) (r9.2.2.2)) (r1.2.2.2.1)) (r1.2.2.2.2.1)) (r1.2.2.2.2.2)))) ++ w_Qu (z_g x) a1 o1 v1) C (c_Sh_passSecond (z_l x) (z_g x) a0 (o0 + 7) (sSh_lines (sSh_harm (sSh_ints (gSe_probe v0) (s2.2.1)) (s2.2.2.1)) (sLi_length (sLi_post (sLi_place (sLi_fast (gSh_lines (gSe_probe v0)) (s2.2.2.2)) (r1.2.2.2.1)) (r1.2.2.2.2.1)) (r1.2.2.2.2.2))) a1 o1 v1  r9 hr9) eX6_getsOff_59 MX6_40 ⟨0, 7, _, _, rfl, rfl, rfl⟩ [7, 8, 9, 10, 11, 12, 16, 17, 18] rfl rfl rfl rfl rfl rfl rfl rfl rfl ?_
          refine r_pop C eX6_getsOff_62 rfl ?_
          refine r_iinc C (v := ((s2.1) + 1)) [(2, .int ((s2.1) + 1)), (0, .ref (a0 o0)), (1, .ref (a1 o1))] eX6_getsOff_63 2 rfl rfl (by decide) rfl ?_
          refine r_goto C eX6_getsOff_66 ?_
          refine r_sub (lv' := [(0, .ref (a0 o0)), (1, .ref (a1 o1)), (2, .int ((s2.1) + 1))]) [1, 2, 0] rfl ?_
          exact ihL6 (((s2.1) + 1), (r9.2.1), (r9.2.2.1), (r9.2.2.2)) hbL6
  refine r_sub (lv' := [(0, .ref (a0 o0)), (1, .ref (a1 o1)), (2, .int 0)]) [1, 2, 0] rfl ?_
  exact L6 LF (0, (upd (upd (r1.1) 6 (-3)) 7 0), (r1.2.1), (r1.2.2.1)) h4
theorem eX6_greatestOff_0 : zd 1 cX6_greatestOff 0 1 (.iconst (-1)) := ⟨by decide +kernel, rfl⟩
theorem eX6_greatestOff_1 : zd 1 cX6_greatestOff 1 2 (.istore_n 3) := ⟨by decide +kernel, rfl⟩
theorem eX6_greatestOff_2 : zd 1 cX6_greatestOff 2 3 (.aload_n 0) := ⟨by decide +kernel, rfl⟩
theorem eX6_greatestOff_3 : zd 3 cX6_greatestOff 3 6 (.getfield 12) := ⟨by decide +kernel, rfl⟩
theorem eX6_greatestOff_6 : zd 1 cX6_greatestOff 6 7 (.aload_n 2) := ⟨by decide +kernel, rfl⟩
theorem eX6_greatestOff_7 : zd 3 cX6_greatestOff 7 10 (.invokevirtual 28) := ⟨by decide +kernel, rfl⟩
theorem eX6_greatestOff_10 : zd 1 cX6_greatestOff 10 11 (.iconst 0) := ⟨by decide +kernel, rfl⟩
theorem eX6_greatestOff_11 : zd 2 cX6_greatestOff 11 13 (.istore 4) := ⟨by decide +kernel, rfl⟩
theorem eX6_greatestOff_13 : zd 2 cX6_greatestOff 13 15 (.iload 4) := ⟨by decide +kernel, rfl⟩
theorem eX6_greatestOff_15 : zd 2 cX6_greatestOff 15 17 (.bipush 120) := ⟨by decide +kernel, rfl⟩
theorem eX6_greatestOff_17 : zdi cX6_greatestOff 17 20 61 (.if_icmp .gt) := ⟨44, by decide +kernel, rfl, by decide⟩
theorem eX6_greatestOff_20 : zd 1 cX6_greatestOff 20 21 (.aload_n 0) := ⟨by decide +kernel, rfl⟩
theorem eX6_greatestOff_21 : zd 3 cX6_greatestOff 21 24 (.getfield 12) := ⟨by decide +kernel, rfl⟩
theorem eX6_greatestOff_24 : zd 3 cX6_greatestOff 24 27 (.getfield 32) := ⟨by decide +kernel, rfl⟩
theorem eX6_greatestOff_27 : zd 1 cX6_greatestOff 27 28 (.aload_n 2) := ⟨by decide +kernel, rfl⟩
theorem eX6_greatestOff_28 : zd 3 cX6_greatestOff 28 31 (.getfield 32) := ⟨by decide +kernel, rfl⟩
theorem eX6_greatestOff_31 : zd 1 cX6_greatestOff 31 32 (.lcmp) := ⟨by decide +kernel, rfl⟩
theorem eX6_greatestOff_32 : zdi cX6_greatestOff 32 35 61 (.ifCond .ne) := ⟨29, by decide +kernel, rfl, by decide⟩
theorem eX6_greatestOff_35 : zd 1 cX6_greatestOff 35 36 (.aload_n 0) := ⟨by decide +kernel, rfl⟩
theorem eX6_greatestOff_36 : zd 1 cX6_greatestOff 36 37 (.aload_n 1) := ⟨by decide +kernel, rfl⟩
theorem eX6_greatestOff_37 : zd 3 cX6_greatestOff 37 40 (.invokevirtual 57) := ⟨by decide +kernel, rfl⟩
theorem eX6_greatestOff_40 : zdi cX6_greatestOff 40 43 46 (.ifCond .eq) := ⟨6, by decide +kernel, rfl, by decide⟩
theorem eX6_greatestOff_43 : zd 2 cX6_greatestOff 43 45 (.iload 4) := ⟨by decide +kernel, rfl⟩
theorem eX6_greatestOff_45 : zd 1 cX6_greatestOff 45 46 (.istore_n 3) := ⟨by decide +kernel, rfl⟩
theorem eX6_greatestOff_46 : zd 1 cX6_greatestOff 46 47 (.aload_n 0) := ⟨by decide +kernel, rfl⟩
theorem eX6_greatestOff_47 : zd 3 cX6_greatestOff 47 50 (.getfield 12) := ⟨by decide +kernel, rfl⟩
theorem eX6_greatestOff_50 : zd 1 cX6_greatestOff 50 51 (.aload_n 1) := ⟨by decide +kernel, rfl⟩
theorem eX6_greatestOff_51 : zd 3 cX6_greatestOff 51 54 (.invokevirtual 40) := ⟨by decide +kernel, rfl⟩
theorem eX6_greatestOff_54 : zd 1 cX6_greatestOff 54 55 (.pop) := ⟨by decide +kernel, rfl⟩
theorem eX6_greatestOff_55 : zd 3 cX6_greatestOff 55 58 (.iinc 4 1) := ⟨by decide +kernel, rfl⟩
theorem eX6_greatestOff_58 : zdi cX6_greatestOff 58 61 13 (.goto) := ⟨(-45), by decide +kernel, rfl, by decide⟩
theorem eX6_greatestOff_61 : zd 1 cX6_greatestOff 61 62 (.iload_n 3) := ⟨by decide +kernel, rfl⟩
theorem eX6_greatestOff_62 : zd 1 cX6_greatestOff 62 63 (.ireturn) := ⟨by decide +kernel, rfl⟩
theorem MX6_57 : zlV RX6 57 yX6_getsOff cX6_getsOff 3 ((Option.some FieldType.boolean)) 1 := ⟨q907, q909, qs20, q9, q910, by decide, by decide, by decide +kernel⟩
noncomputable def fB_Se_greatestOff_13 (v0 : tSe) (v1 : tQu) (v2 : tSh) (r1 : (Nat → Int32) × Int64 × (Nat → Int32) × (Nat → Int32) × (Nat → Int32) × (Nat → Int32)) (ih : (Int32 × Int32 × (Nat → Int32) × Int64 × (Nat → Int32) × (Nat → Int32) × Int64 × (Nat → Int32) × (Nat → Int32) × (Nat → Int32) × (Nat → Int32)) → Option (Int32 × Int32 × (Nat → Int32) × Int64 × (Nat → Int32) × (Nat → Int32) × Int64 × (Nat → Int32) × (Nat → Int32) × (Nat → Int32) × (Nat → Int32))) (s2 : Int32 × Int32 × (Nat → Int32) × Int64 × (Nat → Int32) × (Nat → Int32) × Int64 × (Nat → Int32) × (Nat → Int32) × (Nat → Int32) × (Nat → Int32)) : Option (Int32 × Int32 × (Nat → Int32) × Int64 × (Nat → Int32) × (Nat → Int32) × Int64 × (Nat → Int32) × (Nat → Int32) × (Nat → Int32) × (Nat → Int32)) := (if 120 < (s2.2.1) then (some ((s2.1), (s2.2.1), (s2.2.2.1), (s2.2.2.2.1), (s2.2.2.2.2.1), (s2.2.2.2.2.2.1), (s2.2.2.2.2.2.2.1), (s2.2.2.2.2.2.2.2.1), (s2.2.2.2.2.2.2.2.2.1), (s2.2.2.2.2.2.2.2.2.2.1), (s2.2.2.2.2.2.2.2.2.2.2))) else (if (s2.2.2.2.1) = (gSh_harm v2) then (Option.bind (f_Se_getsOff (sSe_probe (sSe_base v0 (sSh_lines (sSh_harm (sSh_ints (gSe_base v0) (s2.2.2.1)) (s2.2.2.2.1)) (sLi_length (sLi_post (sLi_place (sLi_fast (gSh_lines (gSe_base v0)) (s2.2.2.2.2.1)) (r1.2.2.2.1)) (r1.2.2.2.2.1)) (r1.2.2.2.2.2)))) (sSh_lines (sSh_harm (sSh_ints (gSe_probe v0) (s2.2.2.2.2.2.1)) (s2.2.2.2.2.2.2.1)) (sLi_length (sLi_post (sLi_place (sLi_fast (gSh_lines (gSe_probe v0)) (s2.2.2.2.2.2.2.2.1)) (s2.2.2.2.2.2.2.2.2.1)) (s2.2.2.2.2.2.2.2.2.2.1)) (s2.2.2.2.2.2.2.2.2.2.2)))) v1) (fun (r9 : Int32 × (Nat → Int32) × Int64 × (Nat → Int32) × (Nat → Int32) × (Nat → Int32) × (Nat → Int32)) => (zlet (if (r9.1) = 0 then (s2.1) else (s2.2.1)) (fun (w11 : Int32) => (Option.bind (f_Sh_passSecond (sSh_lines (sSh_harm (sSh_ints (gSe_base v0) (s2.2.2.1)) (s2.2.2.2.1)) (sLi_length (sLi_post (sLi_place (sLi_fast (gSh_lines (gSe_base v0)) (s2.2.2.2.2.1)) (r1.2.2.2.1)) (r1.2.2.2.2.1)) (r1.2.2.2.2.2))) v1) (fun (r14 : Int32 × (Nat → Int32) × Int64 × (Nat → Int32)) => (ih (w11, ((s2.2.1) + 1), (r14.2.1), (r14.2.2.1), (r14.2.2.2), (r9.2.1), (r9.2.2.1), (r9.2.2.2.1), (r9.2.2.2.2.1), (r9.2.2.2.2.2.1), (r9.2.2.2.2.2.2))))))))) else (some ((s2.1), (s2.2.1), (s2.2.2.1), (s2.2.2.2.1), (s2.2.2.2.2.1), (s2.2.2.2.2.2.1), (s2.2.2.2.2.2.2.1), (s2.2.2.2.2.2.2.2.1), (s2.2.2.2.2.2.2.2.2.1), (s2.2.2.2.2.2.2.2.2.2.1), (s2.2.2.2.2.2.2.2.2.2.2)))))
noncomputable def f_Se_greatestOff (v0 : tSe) (v1 : tQu) (v2 : tSh)  : Option (Int32 × (Nat → Int32) × Int64 × (Nat → Int32) × (Nat → Int32) × (Nat → Int32) × (Nat → Int32) × (Nat → Int32) × Int64 × (Nat → Int32) × (Nat → Int32) × (Nat → Int32) × (Nat → Int32)) := (Option.bind (f_Sh_copyFrom (gSe_base v0) v2) (fun (r1 : (Nat → Int32) × Int64 × (Nat → Int32) × (Nat → Int32) × (Nat → Int32) × (Nat → Int32)) => (Option.bind (lp (fB_Se_greatestOff_13 v0 v1 v2 r1) LF ((-1), 0, (r1.1), (r1.2.1), (r1.2.2.1), (gSh_ints (gSe_probe v0)), (gSh_harm (gSe_probe v0)), (gLi_fast (gSh_lines (gSe_probe v0))), (gLi_place (gSh_lines (gSe_probe v0))), (gLi_post (gSh_lines (gSe_probe v0))), (gLi_length (gSh_lines (gSe_probe v0))))) (fun (q3 : Int32 × Int32 × (Nat → Int32) × Int64 × (Nat → Int32) × (Nat → Int32) × Int64 × (Nat → Int32) × (Nat → Int32) × (Nat → Int32) × (Nat → Int32)) => (some ((q3.1), (q3.2.2.1), (q3.2.2.2.1), (q3.2.2.2.2.1), (r1.2.2.2.1), (r1.2.2.2.2.1), (r1.2.2.2.2.2), (q3.2.2.2.2.2.1), (q3.2.2.2.2.2.2.1), (q3.2.2.2.2.2.2.2.1), (q3.2.2.2.2.2.2.2.2.1), (q3.2.2.2.2.2.2.2.2.2.1), (q3.2.2.2.2.2.2.2.2.2.2)))))))
abbrev rm_Se_greatestOff : Room := { frames := 5, cells := 0, slots := 0, locals := 124 }
set_option maxHeartbeats 4000000 in
set_option maxRecDepth 100000 in
theorem c_Se_greatestOff (l : Launch) (g : zGl) (a0 : Nat → Nat) (o0 : Nat) (v0 : tSe) (a1 : Nat → Nat) (o1 : Nat) (v1 : tQu) (a2 : Nat → Nat) (o2 : Nat) (v2 : tSh)  (out : Int32 × (Nat → Int32) × Int64 × (Nat → Int32) × (Nat → Int32) × (Nat → Int32) × (Nat → Int32) × (Nat → Int32) × Int64 × (Nat → Int32) × (Nat → Int32) × (Nat → Int32) × (Nat → Int32)) (hf : f_Se_greatestOff v0 v1 v2 = some out) : zMi l yX6_greatestOff cX6_greatestOff 5 rm_Se_greatestOff g [.ref (a0 o0), .ref (a1 o1), .ref (a2 o2)] (w_Se g a0 o0 v0 ++ w_Qu g a1 o1 v1 ++ w_Sh g a2 o2 v2) (out.1) (w_Se g a0 o0 (sSe_probe (sSe_base v0 (sSh_lines (sSh_harm (sSh_ints (gSe_base v0) (out.2.1)) (out.2.2.1)) (sLi_length (sLi_post (sLi_place (sLi_fast (gSh_lines (gSe_base v0)) (out.2.2.2.1)) (out.2.2.2.2.1)) (out.2.2.2.2.2.1)) (out.2.2.2.2.2.2.1)))) (sSh_lines (sSh_harm (sSh_ints (gSe_probe v0) (out.2.2.2.2.2.2.2.1)) (out.2.2.2.2.2.2.2.2.1)) (sLi_length (sLi_post (sLi_place (sLi_fast (gSh_lines (gSe_probe v0)) (out.2.2.2.2.2.2.2.2.2.1)) (out.2.2.2.2.2.2.2.2.2.2.1)) (out.2.2.2.2.2.2.2.2.2.2.2.1)) (out.2.2.2.2.2.2.2.2.2.2.2.2)))) ++ w_Qu g a1 o1 v1 ++ w_Sh g a2 o2 v2) := by
  refine zMi_of (lv := [(0, .ref (a0 o0)), (1, .ref (a1 o1)), (2, .ref (a2 o2))]) (by decide) (Nat.le_of_ble_eq_true rfl) rfl (fun x hl hg C hret => ?_)
  subst hl; subst hg
  rw [f_Se_greatestOff] at hf
  refine r_iconst C (v := (-1)) eX6_greatestOff_0 (by decide) ?_
  refine r_istore_n C [(3, .int (-1)), (0, .ref (a0 o0)), (1, .ref (a1 o1)), (2, .ref (a2 o2))] eX6_greatestOff_1 rfl (by decide) rfl ?_
  refine r_aload_n C eX6_greatestOff_2 1 rfl rfl ?_
  refine r_get (v := .ref (a0 (o0 + 1))) C eX6_greatestOff_3 FX6_12 0 rfl rfl ?_
  refine r_aload_n C eX6_greatestOff_6 3 rfl rfl ?_
  obtain ⟨r1, hr1, hf⟩ := zbind hf
  refine r_V_v (ws' := w_Se (z_g x) a0 o0 (sSe_base v0 (sSh_lines (sSh_harm (sSh_ints (gSe_base v0) (r1.1)) (r1.2.1)) (sLi_length (sLi_post (sLi_place (sLi_fast (gSh_lines (gSe_base v0)) (r1.2.2.1)) (r1.2.2.2.1)) (r1.2.2.2.2.1)) (r1.2.2.2.2.2)))) ++ w_Qu (z_g x) a1 o1 v1 ++ w_Sh (z_g x) a2 o2 v2) C (c_Sh_copyFrom (z_l x) (z_g x) a0 (o0 + 1) (gSe_base v0) a2 o2 v2  r1 hr1) eX6_greatestOff_7 MX6_28 ⟨0, 7, _, _, rfl, rfl, rfl⟩ [1, 2, 3, 4, 5, 6, 19, 20, 21, 22, 23, 24] rfl rfl rfl rfl rfl rfl rfl rfl rfl ?_
  refine r_iconst C (v := 0) eX6_greatestOff_10 (by decide) ?_
  refine r_istore C [(4, .int 0), (3, .int (-1)), (0, .ref (a0 o0)), (1, .ref (a1 o1)), (2, .ref (a2 o2))] eX6_greatestOff_11 (by decide) rfl ?_
  obtain ⟨q3, h4, hf⟩ := zbind hf
  have J5 : vV x 5 0 0 (w_Se (z_g x) a0 o0 (sSe_probe (sSe_base v0 (sSh_lines (sSh_harm (sSh_ints (gSe_base v0) (q3.2.2.1)) (q3.2.2.2.1)) (sLi_length (sLi_post (sLi_place (sLi_fast (gSh_lines (gSe_base v0)) (q3.2.2.2.2.1)) (r1.2.2.2.1)) (r1.2.2.2.2.1)) (r1.2.2.2.2.2)))) (sSh_lines (sSh_harm (sSh_ints (gSe_probe v0) (q3.2.2.2.2.2.1)) (q3.2.2.2.2.2.2.1)) (sLi_length (sLi_post (sLi_place (sLi_fast (gSh_lines (gSe_probe v0)) (q3.2.2.2.2.2.2.2.1)) (q3.2.2.2.2.2.2.2.2.1)) (q3.2.2.2.2.2.2.2.2.2.1)) (q3.2.2.2.2.2.2.2.2.2.2)))) ++ w_Qu (z_g x) a1 o1 v1 ++ w_Sh (z_g x) a2 o2 v2) 61 [(3, .int (q3.1))] [] := by
    refine r_iload_n C eX6_greatestOff_61 0 rfl rfl ?_
    obtain rfl := Option.some.inj (show some (((q3.1), (q3.2.2.1), (q3.2.2.2.1), (q3.2.2.2.2.1), (r1.2.2.2.1), (r1.2.2.2.2.1), (r1.2.2.2.2.2), (q3.2.2.2.2.2.1), (q3.2.2.2.2.2.2.1), (q3.2.2.2.2.2.2.2.1), (q3.2.2.2.2.2.2.2.2.1), (q3.2.2.2.2.2.2.2.2.2.1), (q3.2.2.2.2.2.2.2.2.2.2)) : Int32 × (Nat → Int32) × Int64 × (Nat → Int32) × (Nat → Int32) × (Nat → Int32) × (Nat → Int32) × (Nat → Int32) × Int64 × (Nat → Int32) × (Nat → Int32) × (Nat → Int32) × (Nat → Int32)) = some _ from hf)
    exact hret _ _ _ eX6_greatestOff_62
  have L6 : ∀ (nL6 : Nat) (s2 : Int32 × Int32 × (Nat → Int32) × Int64 × (Nat → Int32) × (Nat → Int32) × Int64 × (Nat → Int32) × (Nat → Int32) × (Nat → Int32) × (Nat → Int32)), lp (fB_Se_greatestOff_13 v0 v1 v2 r1) nL6 s2 = some q3 → vV x 5 0 0 (w_Se (z_g x) a0 o0 (sSe_probe (sSe_base v0 (sSh_lines (sSh_harm (sSh_ints (gSe_base v0) (s2.2.2.1)) (s2.2.2.2.1)) (sLi_length (sLi_post (sLi_place (sLi_fast (gSh_lines (gSe_base v0)) (s2.2.2.2.2.1)) (r1.2.2.2.1)) (r1.2.2.2.2.1)) (r1.2.2.2.2.2)))) (sSh_lines (sSh_harm (sSh_ints (gSe_probe v0) (s2.2.2.2.2.2.1)) (s2.2.2.2.2.2.2.1)) (sLi_length (sLi_post (sLi_place (sLi_fast (gSh_lines (gSe_probe v0)) (s2.2.2.2.2.2.2.2.1)) (s2.2.2.2.2.2.2.2.2.1)) (s2.2.2.2.2.2.2.2.2.2.1)) (s2.2.2.2.2.2.2.2.2.2.2)))) ++ w_Qu (z_g x) a1 o1 v1 ++ w_Sh (z_g x) a2 o2 v2) 13 [(0, .ref (a0 o0)), (1, .ref (a1 o1)), (2, .ref (a2 o2)), (3, .int (s2.1)), (4, .int (s2.2.1))] [] := by
    intro nL6
    induction nL6 with
    | zero => intro s2 hq; cases hq
    | succ nL6 ihL6 =>
      intro s2 hbL6
      rw [lp_succ, fB_Se_greatestOff_13] at hbL6
      refine r_iload C eX6_greatestOff_13 4 rfl ?_
      refine r_bipush C (v := 120) eX6_greatestOff_15 (by decide) ?_
      refine r_icmp_gt C eX6_greatestOff_17 (fun c7 => ?_) (fun c7 => ?_)
      · rw [if_pos c7] at hbL6
        obtain rfl := Option.some.inj hbL6
        refine r_sub (lv' := [(3, .int (s2.1))]) [3] rfl ?_
        exact J5
      · rw [if_neg c7] at hbL6
        refine r_aload_n C eX6_greatestOff_20 0 rfl rfl ?_
        refine r_get (v := .ref (a0 (o0 + 1))) C eX6_greatestOff_21 FX6_12 0 rfl rfl ?_
        refine r_get (v := .long (s2.2.2.2.1)) C eX6_greatestOff_24 FX6_32 1 rfl rfl ?_
        refine r_aload_n C eX6_greatestOff_27 2 rfl rfl ?_
        refine r_get (v := .long (gSh_harm v2)) C eX6_greatestOff_28 FX6_32 19 rfl rfl ?_
        refine r_lcmp_ne C eX6_greatestOff_31 eX6_greatestOff_32 (fun c8 => ?_) (fun c8 => ?_)
        · rw [if_neg c8] at hbL6
          obtain rfl := Option.some.inj hbL6
          refine r_sub (lv' := [(3, .int (s2.1))]) [3] rfl ?_
          exact J5
        · rw [if_pos c8] at hbL6
          refine r_aload_n C eX6_greatestOff_35 0 rfl rfl ?_
          refine r_aload_n C eX6_greatestOff_36 1 rfl rfl ?_
          obtain ⟨r9, hr9, hbL6⟩ := zbind hbL6
          refine r_V_z (ws' := w_Se (z_g x) a0 o0 (sSe_probe (sSe_base v0 (sSh_lines (sSh_harm (sSh_ints (gSe_base v0) (s2.2.2.1)) (s2.2.2.2.1)) (sLi_length (sLi_post (sLi_place (sLi_fast (gSh_lines (gSe_base v0)) (s2.2.2.2.2.1)) (r1.2.2.2.1)) (r1.2.2.2.2.1)) (r1.2.2.2.2.2)))) (sSh_lines (sSh_harm (sSh_ints (gSe_probe v0) (r9.2.1)) (r9.2.2.1)) (sLi_length (sLi_post (sLi_place (sLi_fast (gSh_lines (gSe_probe v0)) (r9.2.2.2.1)) (r9.2.2.2.2.1)) (r9.2.2.2.2.2.1)) (r9.2.2.2.2.2.2)))) ++ w_Qu (z_g x) a1 o1 v1 ++ w_Sh (z_g x) a2 o2 v2) C (c_Se_getsOff (z_l x) (z_g x) a0 o0 (sSe_probe (sSe_base v0 (sSh_lines (sSh_harm (sSh_ints (gSe_base v0) (s2.2.2.1)) (s2.2.2.2.1)) (sLi_length (sLi_post (sLi_place (sLi_fast (gSh_lines (gSe_base v0)) (s2.2.2.2.2.1)) (r1.2.2.2.1)) (r1.2.2.2.2.1)) (r1.2.2.2.2.2)))) (sSh_lines (sSh_harm (sSh_ints (gSe_probe v0) (s2.2.2.2.2.2.1)) (s2.2.2.2.2.2.2.1)) (sLi_length (sLi_post (sLi_place (sLi_fast (gSh_lines (gSe_probe v0)) (s2.2.2.2.2.2.2.2.1)) (s2.2.2.2.2.2.2.2.2.1)) (s2.2.2.2.2.2.2.2.2.2.1)) (s2.2.2.2.2.2.2.2.2.2.2)))) a1 o1 v1  r9 hr9) eX6_greatestOff_37 MX6_57 ⟨0, 6, _, _, rfl, rfl, rfl⟩ [0, 1, 2, 3, 4, 5, 6, 7, 8, 9, 10, 11, 12, 13, 14, 15, 16, 17, 18] rfl rfl rfl rfl rfl rfl rfl rfl rfl (fun zb10 => ?_)
          obtain ⟨w11, hw11, hbL6⟩ := zlet_of hbL6
          have J12 : vV x 5 0 0 (w_Se (z_g x) a0 o0 (sSe_probe (sSe_base v0 (sSh_lines (sSh_harm (sSh_ints (gSe_base v0) (s2.2.2.1)) (s2.2.2.2.1)) (sLi_length (sLi_post (sLi_place (sLi_fast (gSh_lines (gSe_base v0)) (s2.2.2.2.2.1)) (r1.2.2.2.1)) (r1.2.2.2.2.1)) (r1.2.2.2.2.2)))) (sSh_lines (sSh_harm (sSh_ints (gSe_probe v0) (r9.2.1)) (r9.2.2.1)) (sLi_length (sLi_post (sLi_place (sLi_fast (gSh_lines (gSe_probe v0)) (r9.2.2.2.1)) (r9.2.2.2.2.1)) (r9.2.2.2.2.2.1)) (r9.2.2.2.2.2.2)))) ++ w_Qu (z_g x) a1 o1 v1 ++ w_Sh (z_g x) a2 o2 v2) 46 [(0, .ref (a0 o0)), (1, .ref (a1 o1)), (2, .ref (a2 o2)), (3, .int w11), (4, .int (s2.2.1))] [] := by
            refine r_aload_n C eX6_greatestOff_46 0 rfl rfl ?_
            refine r_get (v := .ref (a0 (o0 + 1))) C eX6_greatestOff_47 FX6_12 0 rfl rfl ?_
            refine r_aload_n C eX6_greatestOff_50 1 rfl rfl ?_
            obtain ⟨r14, hr14, hbL6⟩ := zbind hbL6
            refine r_V_i (ws' := w_Se (z_g x) a0 o0 (sSe_probe (sSe_base v0 (sSh_lines (sSh_harm (sSh_ints (gSe_base v0) (r14.2.1)) (r14.2.2.1)) (sLi_length (sLi_post (sLi_place (sLi_fast (gSh_lines (gSe_base v0)) (r14.2.2.2)) (r1.2.2.2.1)) (r1.2.2.2.2.1)) (r1.2.2.2.2.2)))) (sSh_lines (sSh_harm (sSh_ints (gSe_probe v0) (r9.2.1)) (r9.2.2.1)) (sLi_length (sLi_post (sLi_place (sLi_fast (gSh_lines (gSe_probe v0)) (r9.2.2.2.1)) (r9.2.2.2.2.1)) (r9.2.2.2.2.2.1)) (r9.2.2.2.2.2.2)))) ++ w_Qu (z_g x) a1 o1 v1 ++ w_Sh (z_g x) a2 o2 v2) C (c_Sh_passSecond (z_l x) (z_g x) a0 (o0 + 1) (sSh_lines (sSh_harm (sSh_ints (gSe_base v0) (s2.2.2.1)) (s2.2.2.2.1)) (sLi_length (sLi_post (sLi_place (sLi_fast (gSh_lines (gSe_base v0)) (s2.2.2.2.2.1)) (r1.2.2.2.1)) (r1.2.2.2.2.1)) (r1.2.2.2.2.2))) a1 o1 v1  r14 hr14) eX6_greatestOff_51 MX6_40 ⟨0, 7, _, _, rfl, rfl, rfl⟩ [1, 2, 3, 4, 5, 6, 16, 17, 18] rfl rfl rfl rfl rfl rfl rfl rfl rfl ?_
            refine r_pop C eX6_greatestOff_54 rfl ?_
            refine r_iinc C (v := ((s2.2.1) + 1)) [(4, .int ((s2.2.1) + 1)), (0, .ref (a0 o0)), (1, .ref (a1 o1)), (2, .ref (a2 o2)), (3, .int w11)] eX6_greatestOff_55 4 rfl rfl (by decide) rfl ?_
            refine r_goto C eX6_greatestOff_58 ?_
            refine r_sub (lv' := [(0, .ref (a0 o0)), (1, .ref (a1 o1)), (2, .ref (a2 o2)), (3, .int w11), (4, .int ((s2.2.1) + 1))]) [1, 2, 3, 4, 0] rfl ?_
            exact ihL6 (w11, ((s2.2.1) + 1), (r14.2.1), (r14.2.2.1), (r14.2.2.2), (r9.2.1), (r9.2.2.1), (r9.2.2.2.1), (r9.2.2.2.2.1), (r9.2.2.2.2.2.1), (r9.2.2.2.2.2.2)) hbL6
          refine r_if_eq C eX6_greatestOff_40 (fun c13 => ?_) (fun c13 => ?_)
          · rw [if_pos c13] at hw11
            subst hw11
            exact J12
          · rw [if_neg c13] at hw11
            refine r_iload C eX6_greatestOff_43 4 rfl ?_
            refine r_istore_n C [(3, .int (s2.2.1)), (0, .ref (a0 o0)), (1, .ref (a1 o1)), (2, .ref (a2 o2)), (4, .int (s2.2.1))] eX6_greatestOff_45 rfl (by decide) rfl ?_
            subst hw11
            refine r_sub (lv' := [(0, .ref (a0 o0)), (1, .ref (a1 o1)), (2, .ref (a2 o2)), (3, .int (s2.2.1)), (4, .int (s2.2.1))]) [1, 2, 3, 0, 4] rfl ?_
            exact J12
  refine r_sub (lv' := [(0, .ref (a0 o0)), (1, .ref (a1 o1)), (2, .ref (a2 o2)), (3, .int (-1)), (4, .int 0)]) [2, 3, 4, 1, 0] rfl ?_
  exact L6 LF ((-1), 0, (r1.1), (r1.2.1), (r1.2.2.1), (gSh_ints (gSe_probe v0)), (gSh_harm (gSe_probe v0)), (gLi_fast (gSh_lines (gSe_probe v0))), (gLi_place (gSh_lines (gSe_probe v0))), (gLi_post (gSh_lines (gSe_probe v0))), (gLi_length (gSh_lines (gSe_probe v0)))) h4
theorem eX6_isSafeByPlan_0 : zd 1 cX6_isSafeByPlan 0 1 (.aload_n 0) := ⟨by decide +kernel, rfl⟩
theorem eX6_isSafeByPlan_1 : zd 3 cX6_isSafeByPlan 1 4 (.getfield 18) := ⟨by decide +kernel, rfl⟩
theorem eX6_isSafeByPlan_4 : zd 3 cX6_isSafeByPlan 4 7 (.getfield 32) := ⟨by decide +kernel, rfl⟩
theorem eX6_isSafeByPlan_7 : zd 2 cX6_isSafeByPlan 7 9 (.lstore 4) := ⟨by decide +kernel, rfl⟩
theorem eX6_isSafeByPlan_9 : zd 1 cX6_isSafeByPlan 9 10 (.iconst 0) := ⟨by decide +kernel, rfl⟩
theorem eX6_isSafeByPlan_10 : zd 2 cX6_isSafeByPlan 10 12 (.istore 6) := ⟨by decide +kernel, rfl⟩
theorem eX6_isSafeByPlan_12 : zd 1 cX6_isSafeByPlan 12 13 (.iconst 0) := ⟨by decide +kernel, rfl⟩
theorem eX6_isSafeByPlan_13 : zd 2 cX6_isSafeByPlan 13 15 (.istore 7) := ⟨by decide +kernel, rfl⟩
theorem eX6_isSafeByPlan_15 : zd 2 cX6_isSafeByPlan 15 17 (.iload 7) := ⟨by decide +kernel, rfl⟩
theorem eX6_isSafeByPlan_17 : zd 1 cX6_isSafeByPlan 17 18 (.iload_n 3) := ⟨by decide +kernel, rfl⟩
theorem eX6_isSafeByPlan_18 : zdi cX6_isSafeByPlan 18 21 63 (.if_icmp .ge) := ⟨45, by decide +kernel, rfl, by decide⟩
theorem eX6_isSafeByPlan_21 : zd 1 cX6_isSafeByPlan 21 22 (.aload_n 0) := ⟨by decide +kernel, rfl⟩
theorem eX6_isSafeByPlan_22 : zd 3 cX6_isSafeByPlan 22 25 (.getfield 18) := ⟨by decide +kernel, rfl⟩
theorem eX6_isSafeByPlan_25 : zd 3 cX6_isSafeByPlan 25 28 (.getfield 32) := ⟨by decide +kernel, rfl⟩
theorem eX6_isSafeByPlan_28 : zd 2 cX6_isSafeByPlan 28 30 (.lload 4) := ⟨by decide +kernel, rfl⟩
theorem eX6_isSafeByPlan_30 : zd 1 cX6_isSafeByPlan 30 31 (.lcmp) := ⟨by decide +kernel, rfl⟩
theorem eX6_isSafeByPlan_31 : zdi cX6_isSafeByPlan 31 34 63 (.ifCond .ne) := ⟨32, by decide +kernel, rfl, by decide⟩
theorem eX6_isSafeByPlan_34 : zd 1 cX6_isSafeByPlan 34 35 (.aload_n 2) := ⟨by decide +kernel, rfl⟩
theorem eX6_isSafeByPlan_35 : zd 1 cX6_isSafeByPlan 35 36 (.aload_n 0) := ⟨by decide +kernel, rfl⟩
theorem eX6_isSafeByPlan_36 : zd 3 cX6_isSafeByPlan 36 39 (.getfield 18) := ⟨by decide +kernel, rfl⟩
theorem eX6_isSafeByPlan_39 : zd 2 cX6_isSafeByPlan 39 41 (.iload 6) := ⟨by decide +kernel, rfl⟩
theorem eX6_isSafeByPlan_41 : zd 2 cX6_isSafeByPlan 41 43 (.iload 7) := ⟨by decide +kernel, rfl⟩
theorem eX6_isSafeByPlan_43 : zd 3 cX6_isSafeByPlan 43 46 (.invokevirtual 79) := ⟨by decide +kernel, rfl⟩
theorem eX6_isSafeByPlan_46 : zd 2 cX6_isSafeByPlan 46 48 (.istore 6) := ⟨by decide +kernel, rfl⟩
theorem eX6_isSafeByPlan_48 : zd 1 cX6_isSafeByPlan 48 49 (.aload_n 0) := ⟨by decide +kernel, rfl⟩
theorem eX6_isSafeByPlan_49 : zd 3 cX6_isSafeByPlan 49 52 (.getfield 18) := ⟨by decide +kernel, rfl⟩
theorem eX6_isSafeByPlan_52 : zd 1 cX6_isSafeByPlan 52 53 (.aload_n 1) := ⟨by decide +kernel, rfl⟩
theorem eX6_isSafeByPlan_53 : zd 3 cX6_isSafeByPlan 53 56 (.invokevirtual 40) := ⟨by decide +kernel, rfl⟩
theorem eX6_isSafeByPlan_56 : zd 1 cX6_isSafeByPlan 56 57 (.pop) := ⟨by decide +kernel, rfl⟩
theorem eX6_isSafeByPlan_57 : zd 3 cX6_isSafeByPlan 57 60 (.iinc 7 1) := ⟨by decide +kernel, rfl⟩
theorem eX6_isSafeByPlan_60 : zdi cX6_isSafeByPlan 60 63 15 (.goto) := ⟨(-45), by decide +kernel, rfl, by decide⟩
theorem eX6_isSafeByPlan_63 : zd 1 cX6_isSafeByPlan 63 64 (.aload_n 0) := ⟨by decide +kernel, rfl⟩
theorem eX6_isSafeByPlan_64 : zd 3 cX6_isSafeByPlan 64 67 (.getfield 18) := ⟨by decide +kernel, rfl⟩
theorem eX6_isSafeByPlan_67 : zd 3 cX6_isSafeByPlan 67 70 (.getfield 32) := ⟨by decide +kernel, rfl⟩
theorem eX6_isSafeByPlan_70 : zd 2 cX6_isSafeByPlan 70 72 (.lload 4) := ⟨by decide +kernel, rfl⟩
theorem eX6_isSafeByPlan_72 : zd 1 cX6_isSafeByPlan 72 73 (.lcmp) := ⟨by decide +kernel, rfl⟩
theorem eX6_isSafeByPlan_73 : zdi cX6_isSafeByPlan 73 76 91 (.ifCond .ne) := ⟨18, by decide +kernel, rfl, by decide⟩
theorem eX6_isSafeByPlan_76 : zd 1 cX6_isSafeByPlan 76 77 (.aload_n 0) := ⟨by decide +kernel, rfl⟩
theorem eX6_isSafeByPlan_77 : zd 3 cX6_isSafeByPlan 77 80 (.getfield 18) := ⟨by decide +kernel, rfl⟩
theorem eX6_isSafeByPlan_80 : zd 1 cX6_isSafeByPlan 80 81 (.aload_n 1) := ⟨by decide +kernel, rfl⟩
theorem eX6_isSafeByPlan_81 : zd 3 cX6_isSafeByPlan 81 84 (.invokevirtual 54) := ⟨by decide +kernel, rfl⟩
theorem eX6_isSafeByPlan_84 : zdi cX6_isSafeByPlan 84 87 91 (.ifCond .eq) := ⟨7, by decide +kernel, rfl, by decide⟩
theorem eX6_isSafeByPlan_87 : zd 1 cX6_isSafeByPlan 87 88 (.iconst 1) := ⟨by decide +kernel, rfl⟩
theorem eX6_isSafeByPlan_88 : zdi cX6_isSafeByPlan 88 91 92 (.goto) := ⟨4, by decide +kernel, rfl, by decide⟩
theorem eX6_isSafeByPlan_91 : zd 1 cX6_isSafeByPlan 91 92 (.iconst 0) := ⟨by decide +kernel, rfl⟩
theorem eX6_isSafeByPlan_92 : zd 1 cX6_isSafeByPlan 92 93 (.ireturn) := ⟨by decide +kernel, rfl⟩
theorem MX6_54 : zlV RX6 54 yX7_isSafe cX7_isSafe 2 ((Option.some FieldType.boolean)) 1 := ⟨q898, q704, q705, q7, q706, by decide, by decide, by decide +kernel⟩
theorem MX6_79 : zlV RX6 79 yX3_steer cX3_steer 4 ((Option.some FieldType.int)) 3 := ⟨q927, q783, q784, q5, q785, by decide, by decide, by decide +kernel⟩
noncomputable def fB_Se_isSafeByPlan_15 (v0 : tSe) (v1 : tQu) (v2 : tPl) (p1 : Int32) (ih : (Int32 × Int32 × (Nat → Int32) × Int64 × (Nat → Int32)) → Option (Int32 × Int32 × (Nat → Int32) × Int64 × (Nat → Int32))) (s1 : Int32 × Int32 × (Nat → Int32) × Int64 × (Nat → Int32)) : Option (Int32 × Int32 × (Nat → Int32) × Int64 × (Nat → Int32)) := (if p1 ≤ (s1.2.1) then (some ((s1.1), (s1.2.1), (s1.2.2.1), (s1.2.2.2.1), (s1.2.2.2.2))) else (if (s1.2.2.2.1) = (gSh_harm (gSe_probe v0)) then (Option.bind (f_Pl_steer v2 (sSh_lines (sSh_harm (sSh_ints (gSe_probe v0) (s1.2.2.1)) (s1.2.2.2.1)) (sLi_fast (gSh_lines (gSe_probe v0)) (s1.2.2.2.2))) (s1.1) (s1.2.1)) (fun (r8 : Int32 × (Nat → Int32)) => (Option.bind (f_Sh_passSecond (sSh_lines (sSh_harm (sSh_ints (gSe_probe v0) (r8.2)) (s1.2.2.2.1)) (sLi_fast (gSh_lines (gSe_probe v0)) (s1.2.2.2.2))) v1) (fun (r9 : Int32 × (Nat → Int32) × Int64 × (Nat → Int32)) => (ih ((r8.1), ((s1.2.1) + 1), (r9.2.1), (r9.2.2.1), (r9.2.2.2))))))) else (some ((s1.1), (s1.2.1), (s1.2.2.1), (s1.2.2.2.1), (s1.2.2.2.2)))))
noncomputable def f_Se_isSafeByPlan (v0 : tSe) (v1 : tQu) (v2 : tPl) (p1 : Int32) : Option (Int32 × (Nat → Int32) × Int64 × (Nat → Int32)) := (Option.bind (lp (fB_Se_isSafeByPlan_15 v0 v1 v2 p1) LF (0, 0, (gSh_ints (gSe_probe v0)), (gSh_harm (gSe_probe v0)), (gLi_fast (gSh_lines (gSe_probe v0))))) (fun (q2 : Int32 × Int32 × (Nat → Int32) × Int64 × (Nat → Int32)) => (if (q2.2.2.2.1) = (gSh_harm (gSe_probe v0)) then (if (f_Sh_isSafe (sSh_lines (sSh_harm (sSh_ints (gSe_probe v0) (q2.2.2.1)) (q2.2.2.2.1)) (sLi_fast (gSh_lines (gSe_probe v0)) (q2.2.2.2.2))) v1) = 0 then (some (0, (q2.2.2.1), (q2.2.2.2.1), (q2.2.2.2.2))) else (some (1, (q2.2.2.1), (q2.2.2.2.1), (q2.2.2.2.2)))) else (some (0, (q2.2.2.1), (q2.2.2.2.1), (q2.2.2.2.2))))))
abbrev rm_Se_isSafeByPlan : Room := { frames := 4, cells := 0, slots := 0, locals := 102 }
set_option maxHeartbeats 4000000 in
set_option maxRecDepth 100000 in
theorem c_Se_isSafeByPlan (l : Launch) (g : zGl) (a0 : Nat → Nat) (o0 : Nat) (v0 : tSe) (a1 : Nat → Nat) (o1 : Nat) (v1 : tQu) (a2 : Nat → Nat) (o2 : Nat) (v2 : tPl) (p1 : Int32) (out : Int32 × (Nat → Int32) × Int64 × (Nat → Int32)) (hf : f_Se_isSafeByPlan v0 v1 v2 p1 = some out) : zMz l yX6_isSafeByPlan cX6_isSafeByPlan 8 rm_Se_isSafeByPlan g [.ref (a0 o0), .ref (a1 o1), .ref (a2 o2), .int p1] (w_Se g a0 o0 v0 ++ w_Qu g a1 o1 v1 ++ w_Pl g a2 o2 v2) (out.1) (w_Se g a0 o0 (sSe_probe v0 (sSh_lines (sSh_harm (sSh_ints (gSe_probe v0) (out.2.1)) (out.2.2.1)) (sLi_fast (gSh_lines (gSe_probe v0)) (out.2.2.2)))) ++ w_Qu g a1 o1 v1 ++ w_Pl g a2 o2 v2) := by
  refine zMz_of (lv := [(0, .ref (a0 o0)), (1, .ref (a1 o1)), (2, .ref (a2 o2)), (3, .int p1)]) (by decide) (Nat.le_of_ble_eq_true rfl) rfl (fun x hl hg C hret => ?_)
  subst hl; subst hg
  rw [f_Se_isSafeByPlan] at hf
  refine r_aload_n C eX6_isSafeByPlan_0 0 rfl rfl ?_
  refine r_get (v := .ref (a0 (o0 + 7))) C eX6_isSafeByPlan_1 FX6_18 0 rfl rfl ?_
  refine r_get (v := .long (gSh_harm (gSe_probe v0))) C eX6_isSafeByPlan_4 FX6_32 7 rfl rfl ?_
  refine r_lstore C [(4, .long (gSh_harm (gSe_probe v0))), (0, .ref (a0 o0)), (1, .ref (a1 o1)), (2, .ref (a2 o2)), (3, .int p1)] eX6_isSafeByPlan_7 (by decide) rfl ?_
  refine r_iconst C (v := 0) eX6_isSafeByPlan_9 (by decide) ?_
  refine r_istore C [(6, .int 0), (4, .long (gSh_harm (gSe_probe v0))), (0, .ref (a0 o0)), (1, .ref (a1 o1)), (2, .ref (a2 o2)), (3, .int p1)] eX6_isSafeByPlan_10 (by decide) rfl ?_
  refine r_iconst C (v := 0) eX6_isSafeByPlan_12 (by decide) ?_
  refine r_istore C [(7, .int 0), (6, .int 0), (4, .long (gSh_harm (gSe_probe v0))), (0, .ref (a0 o0)), (1, .ref (a1 o1)), (2, .ref (a2 o2)), (3, .int p1)] eX6_isSafeByPlan_13 (by decide) rfl ?_
  obtain ⟨q2, h3, hf⟩ := zbind hf
  have J4 : vV x 8 0 0 (w_Se (z_g x) a0 o0 (sSe_probe v0 (sSh_lines (sSh_harm (sSh_ints (gSe_probe v0) (q2.2.2.1)) (q2.2.2.2.1)) (sLi_fast (gSh_lines (gSe_probe v0)) (q2.2.2.2.2)))) ++ w_Qu (z_g x) a1 o1 v1 ++ w_Pl (z_g x) a2 o2 v2) 63 [(0, .ref (a0 o0)), (1, .ref (a1 o1)), (4, .long (gSh_harm (gSe_probe v0)))] [] := by
    refine r_aload_n C eX6_isSafeByPlan_63 0 rfl rfl ?_
    refine r_get (v := .ref (a0 (o0 + 7))) C eX6_isSafeByPlan_64 FX6_18 0 rfl rfl ?_
    refine r_get (v := .long (q2.2.2.2.1)) C eX6_isSafeByPlan_67 FX6_32 7 rfl rfl ?_
    refine r_lload C eX6_isSafeByPlan_70 2 rfl ?_
    refine r_lcmp_ne C eX6_isSafeByPlan_72 eX6_isSafeByPlan_73 (fun c10 => ?_) (fun c10 => ?_)
    · rw [if_neg c10] at hf
      refine r_iconst C (v := 0) eX6_isSafeByPlan_91 (by decide) ?_
      obtain rfl := Option.some.inj (show some ((0, (q2.2.2.1), (q2.2.2.2.1), (q2.2.2.2.2)) : Int32 × (Nat → Int32) × Int64 × (Nat → Int32)) = some _ from hf)
      exact hret _ _ _ eX6_isSafeByPlan_92 zB0
    · rw [if_pos c10] at hf
      refine r_aload_n C eX6_isSafeByPlan_76 0 rfl rfl ?_
      refine r_get (v := .ref (a0 (o0 + 7))) C eX6_isSafeByPlan_77 FX6_18 0 rfl rfl ?_
      refine r_aload_n C eX6_isSafeByPlan_80 1 rfl rfl ?_
      refine r_V_z (ws' := w_Se (z_g x) a0 o0 (sSe_probe v0 (sSh_lines (sSh_harm (sSh_ints (gSe_probe v0) (q2.2.2.1)) (q2.2.2.2.1)) (sLi_fast (gSh_lines (gSe_probe v0)) (q2.2.2.2.2)))) ++ w_Qu (z_g x) a1 o1 v1 ++ w_Pl (z_g x) a2 o2 v2) C (c_Sh_isSafe (z_l x) (z_g x) a0 (o0 + 7) (sSh_lines (sSh_harm (sSh_ints (gSe_probe v0) (q2.2.2.1)) (q2.2.2.2.1)) (sLi_fast (gSh_lines (gSe_probe v0)) (q2.2.2.2.2))) a1 o1 v1  _ rfl) eX6_isSafeByPlan_81 MX6_54 ⟨0, 7, _, _, rfl, rfl, rfl⟩ [7, 8, 9, 10, 11, 12, 16, 17, 18] rfl rfl rfl rfl rfl rfl rfl rfl rfl (fun zb11 => ?_)
      refine r_if_eq C eX6_isSafeByPlan_84 (fun c12 => ?_) (fun c12 => ?_)
      · rw [if_pos c12] at hf
        refine r_iconst C (v := 0) eX6_isSafeByPlan_91 (by decide) ?_
        obtain rfl := Option.some.inj (show some ((0, (q2.2.2.1), (q2.2.2.2.1), (q2.2.2.2.2)) : Int32 × (Nat → Int32) × Int64 × (Nat → Int32)) = some _ from hf)
        exact hret _ _ _ eX6_isSafeByPlan_92 zB0
      · rw [if_neg c12] at hf
        refine r_iconst C (v := 1) eX6_isSafeByPlan_87 (by decide) ?_
        refine r_goto C eX6_isSafeByPlan_88 ?_
        obtain rfl := Option.some.inj (show some ((1, (q2.2.2.1), (q2.2.2.2.1), (q2.2.2.2.2)) : Int32 × (Nat → Int32) × Int64 × (Nat → Int32)) = some _ from hf)
        exact hret _ _ _ eX6_isSafeByPlan_92 zB1
  have L5 : ∀ (nL5 : Nat) (s1 : Int32 × Int32 × (Nat → Int32) × Int64 × (Nat → Int32)), lp (fB_Se_isSafeByPlan_15 v0 v1 v2 p1) nL5 s1 = some q2 → vV x 8 0 0 (w_Se (z_g x) a0 o0 (sSe_probe v0 (sSh_lines (sSh_harm (sSh_ints (gSe_probe v0) (s1.2.2.1)) (s1.2.2.2.1)) (sLi_fast (gSh_lines (gSe_probe v0)) (s1.2.2.2.2)))) ++ w_Qu (z_g x) a1 o1 v1 ++ w_Pl (z_g x) a2 o2 v2) 15 [(0, .ref (a0 o0)), (1, .ref (a1 o1)), (2, .ref (a2 o2)), (3, .int p1), (4, .long (gSh_harm (gSe_probe v0))), (6, .int (s1.1)), (7, .int (s1.2.1))] [] := by
    intro nL5
    induction nL5 with
    | zero => intro s1 hq; cases hq
    | succ nL5 ihL5 =>
      intro s1 hbL5
      rw [lp_succ, fB_Se_isSafeByPlan_15] at hbL5
      refine r_iload C eX6_isSafeByPlan_15 6 rfl ?_
      refine r_iload_n C eX6_isSafeByPlan_17 3 rfl rfl ?_
      refine r_icmp_ge C eX6_isSafeByPlan_18 (fun c6 => ?_) (fun c6 => ?_)
      · rw [if_pos c6] at hbL5
        obtain rfl := Option.some.inj hbL5
        refine r_sub (lv' := [(0, .ref (a0 o0)), (1, .ref (a1 o1)), (4, .long (gSh_harm (gSe_probe v0)))]) [0, 1, 4] rfl ?_
        exact J4
      · rw [if_neg c6] at hbL5
        refine r_aload_n C eX6_isSafeByPlan_21 0 rfl rfl ?_
        refine r_get (v := .ref (a0 (o0 + 7))) C eX6_isSafeByPlan_22 FX6_18 0 rfl rfl ?_
        refine r_get (v := .long (s1.2.2.2.1)) C eX6_isSafeByPlan_25 FX6_32 7 rfl rfl ?_
        refine r_lload C eX6_isSafeByPlan_28 4 rfl ?_
        refine r_lcmp_ne C eX6_isSafeByPlan_30 eX6_isSafeByPlan_31 (fun c7 => ?_) (fun c7 => ?_)
        · rw [if_neg c7] at hbL5
          obtain rfl := Option.some.inj hbL5
          refine r_sub (lv' := [(0, .ref (a0 o0)), (1, .ref (a1 o1)), (4, .long (gSh_harm (gSe_probe v0)))]) [0, 1, 4] rfl ?_
          exact J4
        · rw [if_pos c7] at hbL5
          refine r_aload_n C eX6_isSafeByPlan_34 2 rfl rfl ?_
          refine r_aload_n C eX6_isSafeByPlan_35 0 rfl rfl ?_
          refine r_get (v := .ref (a0 (o0 + 7))) C eX6_isSafeByPlan_36 FX6_18 0 rfl rfl ?_
          refine r_iload C eX6_isSafeByPlan_39 5 rfl ?_
          refine r_iload C eX6_isSafeByPlan_41 6 rfl ?_
          obtain ⟨r8, hr8, hbL5⟩ := zbind hbL5
          refine r_V_i (ws' := w_Se (z_g x) a0 o0 (sSe_probe v0 (sSh_lines (sSh_harm (sSh_ints (gSe_probe v0) (r8.2)) (s1.2.2.2.1)) (sLi_fast (gSh_lines (gSe_probe v0)) (s1.2.2.2.2)))) ++ w_Qu (z_g x) a1 o1 v1 ++ w_Pl (z_g x) a2 o2 v2) C (c_Pl_steer (z_l x) (z_g x) a2 o2 v2 a0 (o0 + 7) (sSh_lines (sSh_harm (sSh_ints (gSe_probe v0) (s1.2.2.1)) (s1.2.2.2.1)) (sLi_fast (gSh_lines (gSe_probe v0)) (s1.2.2.2.2))) (s1.1) (s1.2.1) r8 hr8) eX6_isSafeByPlan_43 MX6_79 ⟨0, 3, _, _, rfl, rfl, rfl⟩ [19, 20, 21, 22, 7, 8, 9, 10, 11, 12] rfl rfl rfl rfl rfl rfl rfl rfl rfl ?_
          refine r_istore C [(6, .int (r8.1)), (0, .ref (a0 o0)), (1, .ref (a1 o1)), (2, .ref (a2 o2)), (3, .int p1), (4, .long (gSh_harm (gSe_probe v0))), (7, .int (s1.2.1))] eX6_isSafeByPlan_46 (by decide) rfl ?_
          refine r_aload_n C eX6_isSafeByPlan_48 1 rfl rfl ?_
          refine r_get (v := .ref (a0 (o0 + 7))) C eX6_isSafeByPlan_49 FX6_18 0 rfl rfl ?_
          refine r_aload_n C eX6_isSafeByPlan_52 2 rfl rfl ?_
          obtain ⟨r9, hr9, hbL5⟩ := zbind hbL5
          refine r_V_i (ws' := w_Se (z_g x) a0 o0 (sSe_probe v0 (sSh_lines (sSh_harm (sSh_ints (gSe_probe v0) (r9.2.1)) (r9.2.2.1)) (sLi_fast (gSh_lines (gSe_probe v0)) (r9.2.2.2)))) ++ w_Qu (z_g x) a1 o1 v1 ++ w_Pl (z_g x) a2 o2 v2) C (c_Sh_passSecond (z_l x) (z_g x) a0 (o0 + 7) (sSh_lines (sSh_harm (sSh_ints (gSe_probe v0) (r8.2)) (s1.2.2.2.1)) (sLi_fast (gSh_lines (gSe_probe v0)) (s1.2.2.2.2))) a1 o1 v1  r9 hr9) eX6_isSafeByPlan_53 MX6_40 ⟨0, 7, _, _, rfl, rfl, rfl⟩ [7, 8, 9, 10, 11, 12, 16, 17, 18] rfl rfl rfl rfl rfl rfl rfl rfl rfl ?_
          refine r_pop C eX6_isSafeByPlan_56 rfl ?_
          refine r_iinc C (v := ((s1.2.1) + 1)) [(7, .int ((s1.2.1) + 1)), (6, .int (r8.1)), (0, .ref (a0 o0)), (1, .ref (a1 o1)), (2, .ref (a2 o2)), (3, .int p1), (4, .long (gSh_harm (gSe_probe v0)))] eX6_isSafeByPlan_57 6 rfl rfl (by decide) rfl ?_
          refine r_goto C eX6_isSafeByPlan_60 ?_
          refine r_sub (lv' := [(0, .ref (a0 o0)), (1, .ref (a1 o1)), (2, .ref (a2 o2)), (3, .int p1), (4, .long (gSh_harm (gSe_probe v0))), (6, .int (r8.1)), (7, .int ((s1.2.1) + 1))]) [2, 3, 4, 5, 6, 1, 0] rfl ?_
          exact ihL5 ((r8.1), ((s1.2.1) + 1), (r9.2.1), (r9.2.2.1), (r9.2.2.2)) hbL5
  refine r_sub (lv' := [(0, .ref (a0 o0)), (1, .ref (a1 o1)), (2, .ref (a2 o2)), (3, .int p1), (4, .long (gSh_harm (gSe_probe v0))), (6, .int 0), (7, .int 0)]) [3, 4, 5, 6, 2, 1, 0] rfl ?_
  exact L5 LF (0, 0, (gSh_ints (gSe_probe v0)), (gSh_harm (gSe_probe v0)), (gLi_fast (gSh_lines (gSe_probe v0)))) h3
theorem eX6_greatestWind_0 : zd 1 cX6_greatestWind 0 1 (.aload_n 0) := ⟨by decide +kernel, rfl⟩
theorem eX6_greatestWind_1 : zd 3 cX6_greatestWind 1 4 (.getfield 24) := ⟨by decide +kernel, rfl⟩
theorem eX6_greatestWind_4 : zd 1 cX6_greatestWind 4 5 (.aload_n 1) := ⟨by decide +kernel, rfl⟩
theorem eX6_greatestWind_5 : zd 3 cX6_greatestWind 5 8 (.invokevirtual 60) := ⟨by decide +kernel, rfl⟩
theorem eX6_greatestWind_8 : zd 2 cX6_greatestWind 8 10 (.bipush 99) := ⟨by decide +kernel, rfl⟩
theorem eX6_greatestWind_10 : zd 2 cX6_greatestWind 10 12 (.istore 5) := ⟨by decide +kernel, rfl⟩
theorem eX6_greatestWind_12 : zd 2 cX6_greatestWind 12 14 (.iload 5) := ⟨by decide +kernel, rfl⟩
theorem eX6_greatestWind_14 : zdi cX6_greatestWind 14 17 57 (.ifCond .lt) := ⟨43, by decide +kernel, rfl, by decide⟩
theorem eX6_greatestWind_17 : zd 1 cX6_greatestWind 17 18 (.aload_n 0) := ⟨by decide +kernel, rfl⟩
theorem eX6_greatestWind_18 : zd 3 cX6_greatestWind 18 21 (.getfield 24) := ⟨by decide +kernel, rfl⟩
theorem eX6_greatestWind_21 : zd 2 cX6_greatestWind 21 23 (.iload 5) := ⟨by decide +kernel, rfl⟩
theorem eX6_greatestWind_23 : zd 3 cX6_greatestWind 23 26 (.putfield 63) := ⟨by decide +kernel, rfl⟩
theorem eX6_greatestWind_26 : zd 1 cX6_greatestWind 26 27 (.aload_n 0) := ⟨by decide +kernel, rfl⟩
theorem eX6_greatestWind_27 : zd 3 cX6_greatestWind 27 30 (.getfield 18) := ⟨by decide +kernel, rfl⟩
theorem eX6_greatestWind_30 : zd 1 cX6_greatestWind 30 31 (.aload_n 2) := ⟨by decide +kernel, rfl⟩
theorem eX6_greatestWind_31 : zd 3 cX6_greatestWind 31 34 (.invokevirtual 28) := ⟨by decide +kernel, rfl⟩
theorem eX6_greatestWind_34 : zd 1 cX6_greatestWind 34 35 (.aload_n 0) := ⟨by decide +kernel, rfl⟩
theorem eX6_greatestWind_35 : zd 1 cX6_greatestWind 35 36 (.aload_n 0) := ⟨by decide +kernel, rfl⟩
theorem eX6_greatestWind_36 : zd 3 cX6_greatestWind 36 39 (.getfield 24) := ⟨by decide +kernel, rfl⟩
theorem eX6_greatestWind_39 : zd 1 cX6_greatestWind 39 40 (.aload_n 3) := ⟨by decide +kernel, rfl⟩
theorem eX6_greatestWind_40 : zd 2 cX6_greatestWind 40 42 (.iload 4) := ⟨by decide +kernel, rfl⟩
theorem eX6_greatestWind_42 : zd 3 cX6_greatestWind 42 45 (.invokevirtual 66) := ⟨by decide +kernel, rfl⟩
theorem eX6_greatestWind_45 : zdi cX6_greatestWind 45 48 51 (.ifCond .eq) := ⟨6, by decide +kernel, rfl, by decide⟩
theorem eX6_greatestWind_48 : zd 2 cX6_greatestWind 48 50 (.iload 5) := ⟨by decide +kernel, rfl⟩
theorem eX6_greatestWind_50 : zd 1 cX6_greatestWind 50 51 (.ireturn) := ⟨by decide +kernel, rfl⟩
theorem eX6_greatestWind_51 : zd 3 cX6_greatestWind 51 54 (.iinc 5 (-1)) := ⟨by decide +kernel, rfl⟩
theorem eX6_greatestWind_54 : zdi cX6_greatestWind 54 57 12 (.goto) := ⟨(-42), by decide +kernel, rfl, by decide⟩
theorem eX6_greatestWind_57 : zd 1 cX6_greatestWind 57 58 (.iconst (-1)) := ⟨by decide +kernel, rfl⟩
theorem eX6_greatestWind_58 : zd 1 cX6_greatestWind 58 59 (.ireturn) := ⟨by decide +kernel, rfl⟩
theorem FX6_24 : zlF RX6 24 6 2 := ⟨(RX6, TX6, 3), rfl, by decide, q311, zin6⟩
theorem PX6_63 : zlP RX6 63 4 10 .int := ⟨(RX4, TX4, 16), tyX4, rfl, by decide, q79, zin4, tyX4_ok, nmX4, rfl, by decide +kernel⟩
theorem MX6_60 : zlV RX6 60 yX4_copyFrom cX4_copyFrom 3 (none) 1 := ⟨q922, q599, q600, q4, q601, by decide, by decide, by decide +kernel⟩
theorem MX6_66 : zlV RX6 66 yX6_isSafeByPlan cX6_isSafeByPlan 8 ((Option.some FieldType.boolean)) 3 := ⟨q923, q925, qs21, q9, q926, by decide, by decide, by decide +kernel⟩
noncomputable def fB_Se_greatestWind_12 (v0 : tSe) (v2 : tSh) (v3 : tPl) (p1 : Int32) (r1 : (Nat → Int32) × (Nat → Int32) × (Nat → Int32)) (ih : (Int32 × (Nat → Int32) × Int64 × (Nat → Int32) × (Nat → Int32) × (Nat → Int32) × (Nat → Int32) × (Nat → Int32)) → Option ((Int32 × (Nat → Int32) × Int64 × (Nat → Int32) × (Nat → Int32) × (Nat → Int32) × (Nat → Int32) × (Nat → Int32) × (Nat → Int32) × (Nat → Int32)) ⊕ (Int32 × (Nat → Int32) × Int64 × (Nat → Int32) × (Nat → Int32) × (Nat → Int32) × (Nat → Int32) × (Nat → Int32)))) (s2 : Int32 × (Nat → Int32) × Int64 × (Nat → Int32) × (Nat → Int32) × (Nat → Int32) × (Nat → Int32) × (Nat → Int32)) : Option ((Int32 × (Nat → Int32) × Int64 × (Nat → Int32) × (Nat → Int32) × (Nat → Int32) × (Nat → Int32) × (Nat → Int32) × (Nat → Int32) × (Nat → Int32)) ⊕ (Int32 × (Nat → Int32) × Int64 × (Nat → Int32) × (Nat → Int32) × (Nat → Int32) × (Nat → Int32) × (Nat → Int32))) := (if (s2.1) < 0 then (some (Sum.inr ((s2.1), (s2.2.1), (s2.2.2.1), (s2.2.2.2.1), (s2.2.2.2.2.1), (s2.2.2.2.2.2.1), (s2.2.2.2.2.2.2.1), (s2.2.2.2.2.2.2.2)))) else (Option.bind (f_Sh_copyFrom (sSh_lines (sSh_harm (sSh_ints (gSe_probe v0) (s2.2.1)) (s2.2.2.1)) (sLi_length (sLi_post (sLi_place (sLi_fast (gSh_lines (gSe_probe v0)) (s2.2.2.2.1)) (s2.2.2.2.2.1)) (s2.2.2.2.2.2.1)) (s2.2.2.2.2.2.2.1))) v2) (fun (r8 : (Nat → Int32) × Int64 × (Nat → Int32) × (Nat → Int32) × (Nat → Int32) × (Nat → Int32)) => (Option.bind (f_Se_isSafeByPlan (sSe_other (sSe_probe v0 (sSh_lines (sSh_harm (sSh_ints (gSe_probe v0) (r8.1)) (r8.2.1)) (sLi_length (sLi_post (sLi_place (sLi_fast (gSh_lines (gSe_probe v0)) (r8.2.2.1)) (r8.2.2.2.1)) (r8.2.2.2.2.1)) (r8.2.2.2.2.2)))) (sQu_strengths (sQu_places (sQu_ints (gSe_other v0) (upd (s2.2.2.2.2.2.2.2) 10 (s2.1))) (r1.2.1)) (r1.2.2))) (sQu_strengths (sQu_places (sQu_ints (gSe_other v0) (upd (s2.2.2.2.2.2.2.2) 10 (s2.1))) (r1.2.1)) (r1.2.2)) v3 p1) (fun (r9 : Int32 × (Nat → Int32) × Int64 × (Nat → Int32)) => (if (r9.1) = 0 then (ih (((s2.1) + (-1)), (r9.2.1), (r9.2.2.1), (r9.2.2.2), (r8.2.2.2.1), (r8.2.2.2.2.1), (r8.2.2.2.2.2), (upd (s2.2.2.2.2.2.2.2) 10 (s2.1)))) else (some (Sum.inl ((s2.1), (r9.2.1), (r9.2.2.1), (r9.2.2.2), (r8.2.2.2.1), (r8.2.2.2.2.1), (r8.2.2.2.2.2), (upd (s2.2.2.2.2.2.2.2) 10 (s2.1)), (r1.2.1), (r1.2.2))))))))))
noncomputable def f_Se_greatestWind (v0 : tSe) (v1 : tQu) (v2 : tSh) (v3 : tPl) (p1 : Int32) : Option (Int32 × (Nat → Int32) × Int64 × (Nat → Int32) × (Nat → Int32) × (Nat → Int32) × (Nat → Int32) × (Nat → Int32) × (Nat → Int32) × (Nat → Int32)) := (Option.bind (f_Qu_copyFrom (gSe_other v0) v1) (fun (r1 : (Nat → Int32) × (Nat → Int32) × (Nat → Int32)) => (Option.bind (lp (fB_Se_greatestWind_12 v0 v2 v3 p1 r1) LF (99, (gSh_ints (gSe_probe v0)), (gSh_harm (gSe_probe v0)), (gLi_fast (gSh_lines (gSe_probe v0))), (gLi_place (gSh_lines (gSe_probe v0))), (gLi_post (gSh_lines (gSe_probe v0))), (gLi_length (gSh_lines (gSe_probe v0))), (r1.1))) (fun (q3 : (Int32 × (Nat → Int32) × Int64 × (Nat → Int32) × (Nat → Int32) × (Nat → Int32) × (Nat → Int32) × (Nat → Int32) × (Nat → Int32) × (Nat → Int32)) ⊕ (Int32 × (Nat → Int32) × Int64 × (Nat → Int32) × (Nat → Int32) × (Nat → Int32) × (Nat → Int32) × (Nat → Int32))) => Sum.elim (fun r => (some r)) (fun (s2e : Int32 × (Nat → Int32) × Int64 × (Nat → Int32) × (Nat → Int32) × (Nat → Int32) × (Nat → Int32) × (Nat → Int32)) => (some ((-1), (s2e.2.1), (s2e.2.2.1), (s2e.2.2.2.1), (s2e.2.2.2.2.1), (s2e.2.2.2.2.2.1), (s2e.2.2.2.2.2.2.1), (s2e.2.2.2.2.2.2.2), (r1.2.1), (r1.2.2)))) q3))))
abbrev rm_Se_greatestWind : Room := { frames := 5, cells := 0, slots := 0, locals := 129 }
set_option maxHeartbeats 4000000 in
set_option maxRecDepth 100000 in
theorem c_Se_greatestWind (l : Launch) (g : zGl) (a0 : Nat → Nat) (o0 : Nat) (v0 : tSe) (a1 : Nat → Nat) (o1 : Nat) (v1 : tQu) (a2 : Nat → Nat) (o2 : Nat) (v2 : tSh) (a3 : Nat → Nat) (o3 : Nat) (v3 : tPl) (p1 : Int32) (out : Int32 × (Nat → Int32) × Int64 × (Nat → Int32) × (Nat → Int32) × (Nat → Int32) × (Nat → Int32) × (Nat → Int32) × (Nat → Int32) × (Nat → Int32)) (hf : f_Se_greatestWind v0 v1 v2 v3 p1 = some out) : zMi l yX6_greatestWind cX6_greatestWind 6 rm_Se_greatestWind g [.ref (a0 o0), .ref (a1 o1), .ref (a2 o2), .ref (a3 o3), .int p1] (w_Se g a0 o0 v0 ++ w_Qu g a1 o1 v1 ++ w_Sh g a2 o2 v2 ++ w_Pl g a3 o3 v3) (out.1) (w_Se g a0 o0 (sSe_other (sSe_probe v0 (sSh_lines (sSh_harm (sSh_ints (gSe_probe v0) (out.2.1)) (out.2.2.1)) (sLi_length (sLi_post (sLi_place (sLi_fast (gSh_lines (gSe_probe v0)) (out.2.2.2.1)) (out.2.2.2.2.1)) (out.2.2.2.2.2.1)) (out.2.2.2.2.2.2.1)))) (sQu_strengths (sQu_places (sQu_ints (gSe_other v0) (out.2.2.2.2.2.2.2.1)) (out.2.2.2.2.2.2.2.2.1)) (out.2.2.2.2.2.2.2.2.2))) ++ w_Qu g a1 o1 v1 ++ w_Sh g a2 o2 v2 ++ w_Pl g a3 o3 v3) := by
  refine zMi_of (lv := [(0, .ref (a0 o0)), (1, .ref (a1 o1)), (2, .ref (a2 o2)), (3, .ref (a3 o3)), (4, .int p1)]) (by decide) (Nat.le_of_ble_eq_true rfl) rfl (fun x hl hg C hret => ?_)
  subst hl; subst hg
  rw [f_Se_greatestWind] at hf
  refine r_aload_n C eX6_greatestWind_0 0 rfl rfl ?_
  refine r_get (v := .ref (a0 (o0 + 13))) C eX6_greatestWind_1 FX6_24 0 rfl rfl ?_
  refine r_aload_n C eX6_greatestWind_4 1 rfl rfl ?_
  obtain ⟨r1, hr1, hf⟩ := zbind hf
  refine r_V_v (ws' := w_Se (z_g x) a0 o0 (sSe_other v0 (sQu_strengths (sQu_places (sQu_ints (gSe_other v0) (r1.1)) (r1.2.1)) (r1.2.2))) ++ w_Qu (z_g x) a1 o1 v1 ++ w_Sh (z_g x) a2 o2 v2 ++ w_Pl (z_g x) a3 o3 v3) C (c_Qu_copyFrom (z_l x) (z_g x) a0 (o0 + 13) (gSe_other v0) a1 o1 v1  r1 hr1) eX6_greatestWind_5 MX6_60 ⟨0, 4, _, _, rfl, rfl, rfl⟩ [13, 14, 15, 16, 17, 18] rfl rfl rfl rfl rfl rfl rfl rfl rfl ?_
  refine r_bipush C (v := 99) eX6_greatestWind_8 (by decide) ?_
  refine r_istore C [(5, .int 99), (0, .ref (a0 o0)), (1, .ref (a1 o1)), (2, .ref (a2 o2)), (3, .ref (a3 o3)), (4, .int p1)] eX6_greatestWind_10 (by decide) rfl ?_
  obtain ⟨q3, h4, hf⟩ := zbind hf
  have J5 : ∀ s2e : Int32 × (Nat → Int32) × Int64 × (Nat → Int32) × (Nat → Int32) × (Nat → Int32) × (Nat → Int32) × (Nat → Int32), q3 = Sum.inr s2e → vV x 6 0 0 (w_Se (z_g x) a0 o0 (sSe_other (sSe_probe v0 (sSh_lines (sSh_harm (sSh_ints (gSe_probe v0) (s2e.2.1)) (s2e.2.2.1)) (sLi_length (sLi_post (sLi_place (sLi_fast (gSh_lines (gSe_probe v0)) (s2e.2.2.2.1)) (s2e.2.2.2.2.1)) (s2e.2.2.2.2.2.1)) (s2e.2.2.2.2.2.2.1)))) (sQu_strengths (sQu_places (sQu_ints (gSe_other v0) (s2e.2.2.2.2.2.2.2)) (r1.2.1)) (r1.2.2))) ++ w_Qu (z_g x) a1 o1 v1 ++ w_Sh (z_g x) a2 o2 v2 ++ w_Pl (z_g x) a3 o3 v3) 57 [] [] := by
    intro s2e hs
    subst hs
    rw [Sum.elim_inr] at hf
    refine r_iconst C (v := (-1)) eX6_greatestWind_57 (by decide) ?_
    obtain rfl := Option.some.inj (show some (((-1), (s2e.2.1), (s2e.2.2.1), (s2e.2.2.2.1), (s2e.2.2.2.2.1), (s2e.2.2.2.2.2.1), (s2e.2.2.2.2.2.2.1), (s2e.2.2.2.2.2.2.2), (r1.2.1), (r1.2.2)) : Int32 × (Nat → Int32) × Int64 × (Nat → Int32) × (Nat → Int32) × (Nat → Int32) × (Nat → Int32) × (Nat → Int32) × (Nat → Int32) × (Nat → Int32)) = some _ from hf)
    exact hret _ _ _ eX6_greatestWind_58
  have L6 : ∀ (nL6 : Nat) (s2 : Int32 × (Nat → Int32) × Int64 × (Nat → Int32) × (Nat → Int32) × (Nat → Int32) × (Nat → Int32) × (Nat → Int32)), lp (fB_Se_greatestWind_12 v0 v2 v3 p1 r1) nL6 s2 = some q3 → vV x 6 0 0 (w_Se (z_g x) a0 o0 (sSe_other (sSe_probe v0 (sSh_lines (sSh_harm (sSh_ints (gSe_probe v0) (s2.2.1)) (s2.2.2.1)) (sLi_length (sLi_post (sLi_place (sLi_fast (gSh_lines (gSe_probe v0)) (s2.2.2.2.1)) (s2.2.2.2.2.1)) (s2.2.2.2.2.2.1)) (s2.2.2.2.2.2.2.1)))) (sQu_strengths (sQu_places (sQu_ints (gSe_other v0) (s2.2.2.2.2.2.2.2)) (r1.2.1)) (r1.2.2))) ++ w_Qu (z_g x) a1 o1 v1 ++ w_Sh (z_g x) a2 o2 v2 ++ w_Pl (z_g x) a3 o3 v3) 12 [(0, .ref (a0 o0)), (2, .ref (a2 o2)), (3, .ref (a3 o3)), (4, .int p1), (5, .int (s2.1))] [] := by
    intro nL6
    induction nL6 with
    | zero => intro s2 hq; cases hq
    | succ nL6 ihL6 =>
      intro s2 hbL6
      rw [lp_succ, fB_Se_greatestWind_12] at hbL6
      refine r_iload C eX6_greatestWind_12 4 rfl ?_
      refine r_if_lt C eX6_greatestWind_14 (fun c7 => ?_) (fun c7 => ?_)
      · rw [if_pos c7] at hbL6
        obtain rfl := Option.some.inj hbL6
        refine r_sub (lv' := []) [] rfl ?_
        exact J5 _ rfl
      · rw [if_neg c7] at hbL6
        refine r_aload_n C eX6_greatestWind_17 0 rfl rfl ?_
        refine r_get (v := .ref (a0 (o0 + 13))) C eX6_greatestWind_18 FX6_24 0 rfl rfl ?_
        refine r_iload C eX6_greatestWind_21 4 rfl ?_
        refine r_put (ws' := w_Se (z_g x) a0 o0 (sSe_other (sSe_probe v0 (sSh_lines (sSh_harm (sSh_ints (gSe_probe v0) (s2.2.1)) (s2.2.2.1)) (sLi_length (sLi_post (sLi_place (sLi_fast (gSh_lines (gSe_probe v0)) (s2.2.2.2.1)) (s2.2.2.2.2.1)) (s2.2.2.2.2.2.1)) (s2.2.2.2.2.2.2.1)))) (sQu_strengths (sQu_places (sQu_ints (gSe_other v0) (upd (s2.2.2.2.2.2.2.2) 10 (s2.1))) (r1.2.1)) (r1.2.2))) ++ w_Qu (z_g x) a1 o1 v1 ++ w_Sh (z_g x) a2 o2 v2 ++ w_Pl (z_g x) a3 o3 v3) C eX6_greatestWind_23 PX6_63 13 rfl rfl rfl (Nat.le_of_ble_eq_true rfl) rfl ?_
        refine r_aload_n C eX6_greatestWind_26 0 rfl rfl ?_
        refine r_get (v := .ref (a0 (o0 + 7))) C eX6_greatestWind_27 FX6_18 0 rfl rfl ?_
        refine r_aload_n C eX6_greatestWind_30 1 rfl rfl ?_
        obtain ⟨r8, hr8, hbL6⟩ := zbind hbL6
        refine r_V_v (ws' := w_Se (z_g x) a0 o0 (sSe_other (sSe_probe v0 (sSh_lines (sSh_harm (sSh_ints (gSe_probe v0) (r8.1)) (r8.2.1)) (sLi_length (sLi_post (sLi_place (sLi_fast (gSh_lines (gSe_probe v0)) (r8.2.2.1)) (r8.2.2.2.1)) (r8.2.2.2.2.1)) (r8.2.2.2.2.2)))) (sQu_strengths (sQu_places (sQu_ints (gSe_other v0) (upd (s2.2.2.2.2.2.2.2) 10 (s2.1))) (r1.2.1)) (r1.2.2))) ++ w_Qu (z_g x) a1 o1 v1 ++ w_Sh (z_g x) a2 o2 v2 ++ w_Pl (z_g x) a3 o3 v3) C (c_Sh_copyFrom (z_l x) (z_g x) a0 (o0 + 7) (sSh_lines (sSh_harm (sSh_ints (gSe_probe v0) (s2.2.1)) (s2.2.2.1)) (sLi_length (sLi_post (sLi_place (sLi_fast (gSh_lines (gSe_probe v0)) (s2.2.2.2.1)) (s2.2.2.2.2.1)) (s2.2.2.2.2.2.1)) (s2.2.2.2.2.2.2.1))) a2 o2 v2  r8 hr8) eX6_greatestWind_31 MX6_28 ⟨0, 7, _, _, rfl, rfl, rfl⟩ [7, 8, 9, 10, 11, 12, 19, 20, 21, 22, 23, 24] rfl rfl rfl rfl rfl rfl rfl rfl rfl ?_
        refine r_aload_n C eX6_greatestWind_34 0 rfl rfl ?_
        refine r_aload_n C eX6_greatestWind_35 0 rfl rfl ?_
        refine r_get (v := .ref (a0 (o0 + 13))) C eX6_greatestWind_36 FX6_24 0 rfl rfl ?_
        refine r_aload_n C eX6_greatestWind_39 2 rfl rfl ?_
        refine r_iload C eX6_greatestWind_40 3 rfl ?_
        obtain ⟨r9, hr9, hbL6⟩ := zbind hbL6
        refine r_V_z (ws' := w_Se (z_g x) a0 o0 (sSe_other (sSe_probe v0 (sSh_lines (sSh_harm (sSh_ints (gSe_probe v0) (r9.2.1)) (r9.2.2.1)) (sLi_length (sLi_post (sLi_place (sLi_fast (gSh_lines (gSe_probe v0)) (r9.2.2.2)) (r8.2.2.2.1)) (r8.2.2.2.2.1)) (r8.2.2.2.2.2)))) (sQu_strengths (sQu_places (sQu_ints (gSe_other v0) (upd (s2.2.2.2.2.2.2.2) 10 (s2.1))) (r1.2.1)) (r1.2.2))) ++ w_Qu (z_g x) a1 o1 v1 ++ w_Sh (z_g x) a2 o2 v2 ++ w_Pl (z_g x) a3 o3 v3) C (c_Se_isSafeByPlan (z_l x) (z_g x) a0 o0 (sSe_other (sSe_probe v0 (sSh_lines (sSh_harm (sSh_ints (gSe_probe v0) (r8.1)) (r8.2.1)) (sLi_length (sLi_post (sLi_place (sLi_fast (gSh_lines (gSe_probe v0)) (r8.2.2.1)) (r8.2.2.2.1)) (r8.2.2.2.2.1)) (r8.2.2.2.2.2)))) (sQu_strengths (sQu_places (sQu_ints (gSe_other v0) (upd (s2.2.2.2.2.2.2.2) 10 (s2.1))) (r1.2.1)) (r1.2.2))) a0 (o0 + 13) (sQu_strengths (sQu_places (sQu_ints (gSe_other v0) (upd (s2.2.2.2.2.2.2.2) 10 (s2.1))) (r1.2.1)) (r1.2.2)) a3 o3 v3 p1 r9 hr9) eX6_greatestWind_42 MX6_66 ⟨0, 6, _, _, rfl, rfl, rfl⟩ [0, 1, 2, 3, 4, 5, 6, 7, 8, 9, 10, 11, 12, 13, 14, 15, 13, 14, 15, 25, 26, 27, 28] rfl rfl rfl rfl rfl rfl rfl rfl rfl (fun zb10 => ?_)
        refine r_if_eq C eX6_greatestWind_45 (fun c11 => ?_) (fun c11 => ?_)
        · rw [if_pos c11] at hbL6
          refine r_iinc C (v := ((s2.1) + (-1))) [(5, .int ((s2.1) + (-1))), (0, .ref (a0 o0)), (2, .ref (a2 o2)), (3, .ref (a3 o3)), (4, .int p1)] eX6_greatestWind_51 4 rfl rfl (by decide) rfl ?_
          refine r_goto C eX6_greatestWind_54 ?_
          refine r_sub (lv' := [(0, .ref (a0 o0)), (2, .ref (a2 o2)), (3, .ref (a3 o3)), (4, .int p1), (5, .int ((s2.1) + (-1)))]) [1, 2, 3, 4, 0] rfl ?_
          exact ihL6 (((s2.1) + (-1)), (r9.2.1), (r9.2.2.1), (r9.2.2.2), (r8.2.2.2.1), (r8.2.2.2.2.1), (r8.2.2.2.2.2), (upd (s2.2.2.2.2.2.2.2) 10 (s2.1))) hbL6
        · rw [if_neg c11] at hbL6
          refine r_iload C eX6_greatestWind_48 4 rfl ?_
          obtain rfl := Option.some.inj (show some (Sum.inl (((s2.1), (r9.2.1), (r9.2.2.1), (r9.2.2.2), (r8.2.2.2.1), (r8.2.2.2.2.1), (r8.2.2.2.2.2), (upd (s2.2.2.2.2.2.2.2) 10 (s2.1)), (r1.2.1), (r1.2.2)) : Int32 × (Nat → Int32) × Int64 × (Nat → Int32) × (Nat → Int32) × (Nat → Int32) × (Nat → Int32) × (Nat → Int32) × (Nat → Int32) × (Nat → Int32))) = some _ from hbL6)
          obtain rfl := Option.some.inj (show some (((s2.1), (r9.2.1), (r9.2.2.1), (r9.2.2.2), (r8.2.2.2.1), (r8.2.2.2.2.1), (r8.2.2.2.2.2), (upd (s2.2.2.2.2.2.2.2) 10 (s2.1)), (r1.2.1), (r1.2.2)) : Int32 × (Nat → Int32) × Int64 × (Nat → Int32) × (Nat → Int32) × (Nat → Int32) × (Nat → Int32) × (Nat → Int32) × (Nat → Int32) × (Nat → Int32)) = some _ from hf)
          exact hret _ _ _ eX6_greatestWind_50
  refine r_sub (lv' := [(0, .ref (a0 o0)), (2, .ref (a2 o2)), (3, .ref (a3 o3)), (4, .int p1), (5, .int 99)]) [1, 3, 4, 5, 0] rfl ?_
  exact L6 LF (99, (gSh_ints (gSe_probe v0)), (gSh_harm (gSe_probe v0)), (gLi_fast (gSh_lines (gSe_probe v0))), (gLi_place (gSh_lines (gSe_probe v0))), (gLi_post (gSh_lines (gSe_probe v0))), (gLi_length (gSh_lines (gSe_probe v0))), (r1.1)) h4
