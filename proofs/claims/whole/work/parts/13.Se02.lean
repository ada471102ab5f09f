theorem eX6_stopsSafely_0 : zd 1 cX6_stopsSafely 0 1 (.aload_n 0) := ⟨by decide +kernel, rfl⟩
theorem eX6_stopsSafely_1 : zd 3 cX6_stopsSafely 1 4 (.getfield 18) := ⟨by decide +kernel, rfl⟩
theorem eX6_stopsSafely_4 : zd 1 cX6_stopsSafely 4 5 (.aload_n 0) := ⟨by decide +kernel, rfl⟩
theorem eX6_stopsSafely_5 : zd 3 cX6_stopsSafely 5 8 (.getfield 12) := ⟨by decide +kernel, rfl⟩
theorem eX6_stopsSafely_8 : zd 3 cX6_stopsSafely 8 11 (.invokevirtual 28) := ⟨by decide +kernel, rfl⟩
theorem eX6_stopsSafely_11 : zd 1 cX6_stopsSafely 11 12 (.aload_n 0) := ⟨by decide +kernel, rfl⟩
theorem eX6_stopsSafely_12 : zd 3 cX6_stopsSafely 12 15 (.getfield 18) := ⟨by decide +kernel, rfl⟩
theorem eX6_stopsSafely_15 : zd 2 cX6_stopsSafely 15 17 (.bipush (-2)) := ⟨by decide +kernel, rfl⟩
theorem eX6_stopsSafely_17 : zd 3 cX6_stopsSafely 17 20 (.putfield 44) := ⟨by decide +kernel, rfl⟩
theorem eX6_stopsSafely_20 : zd 1 cX6_stopsSafely 20 21 (.aload_n 0) := ⟨by decide +kernel, rfl⟩
theorem eX6_stopsSafely_21 : zd 3 cX6_stopsSafely 21 24 (.getfield 18) := ⟨by decide +kernel, rfl⟩
theorem eX6_stopsSafely_24 : zd 1 cX6_stopsSafely 24 25 (.iconst 0) := ⟨by decide +kernel, rfl⟩
theorem eX6_stopsSafely_25 : zd 3 cX6_stopsSafely 25 28 (.putfield 48) := ⟨by decide +kernel, rfl⟩
theorem eX6_stopsSafely_28 : zd 1 cX6_stopsSafely 28 29 (.iconst 0) := ⟨by decide +kernel, rfl⟩
theorem eX6_stopsSafely_29 : zd 1 cX6_stopsSafely 29 30 (.istore_n 2) := ⟨by decide +kernel, rfl⟩
theorem eX6_stopsSafely_30 : zd 1 cX6_stopsSafely 30 31 (.iload_n 2) := ⟨by decide +kernel, rfl⟩
theorem eX6_stopsSafely_31 : zd 2 cX6_stopsSafely 31 33 (.bipush 60) := ⟨by decide +kernel, rfl⟩
theorem eX6_stopsSafely_33 : zdi cX6_stopsSafely 33 36 87 (.if_icmp .ge) := ⟨54, by decide +kernel, rfl, by decide⟩
theorem eX6_stopsSafely_36 : zd 1 cX6_stopsSafely 36 37 (.aload_n 0) := ⟨by decide +kernel, rfl⟩
theorem eX6_stopsSafely_37 : zd 3 cX6_stopsSafely 37 40 (.getfield 18) := ⟨by decide +kernel, rfl⟩
theorem eX6_stopsSafely_40 : zd 3 cX6_stopsSafely 40 43 (.getfield 32) := ⟨by decide +kernel, rfl⟩
theorem eX6_stopsSafely_43 : zd 1 cX6_stopsSafely 43 44 (.aload_n 0) := ⟨by decide +kernel, rfl⟩
theorem eX6_stopsSafely_44 : zd 3 cX6_stopsSafely 44 47 (.getfield 12) := ⟨by decide +kernel, rfl⟩
theorem eX6_stopsSafely_47 : zd 3 cX6_stopsSafely 47 50 (.getfield 32) := ⟨by decide +kernel, rfl⟩
theorem eX6_stopsSafely_50 : zd 1 cX6_stopsSafely 50 51 (.lcmp) := ⟨by decide +kernel, rfl⟩
theorem eX6_stopsSafely_51 : zdi cX6_stopsSafely 51 54 87 (.ifCond .ne) := ⟨36, by decide +kernel, rfl, by decide⟩
theorem eX6_stopsSafely_54 : zd 1 cX6_stopsSafely 54 55 (.aload_n 0) := ⟨by decide +kernel, rfl⟩
theorem eX6_stopsSafely_55 : zd 3 cX6_stopsSafely 55 58 (.getfield 18) := ⟨by decide +kernel, rfl⟩
theorem eX6_stopsSafely_58 : zd 3 cX6_stopsSafely 58 61 (.getfield 51) := ⟨by decide +kernel, rfl⟩
theorem eX6_stopsSafely_61 : zdi cX6_stopsSafely 61 64 72 (.ifCond .gt) := ⟨11, by decide +kernel, rfl, by decide⟩
theorem eX6_stopsSafely_64 : zd 1 cX6_stopsSafely 64 65 (.aload_n 0) := ⟨by decide +kernel, rfl⟩
theorem eX6_stopsSafely_65 : zd 3 cX6_stopsSafely 65 68 (.getfield 18) := ⟨by decide +kernel, rfl⟩
theorem eX6_stopsSafely_68 : zd 1 cX6_stopsSafely 68 69 (.iconst 0) := ⟨by decide +kernel, rfl⟩
theorem eX6_stopsSafely_69 : zd 3 cX6_stopsSafely 69 72 (.putfield 44) := ⟨by decide +kernel, rfl⟩
theorem eX6_stopsSafely_72 : zd 1 cX6_stopsSafely 72 73 (.aload_n 0) := ⟨by decide +kernel, rfl⟩
theorem eX6_stopsSafely_73 : zd 3 cX6_stopsSafely 73 76 (.getfield 18) := ⟨by decide +kernel, rfl⟩
theorem eX6_stopsSafely_76 : zd 1 cX6_stopsSafely 76 77 (.aload_n 1) := ⟨by decide +kernel, rfl⟩
theorem eX6_stopsSafely_77 : zd 3 cX6_stopsSafely 77 80 (.invokevirtual 40) := ⟨by decide +kernel, rfl⟩
theorem eX6_stopsSafely_80 : zd 1 cX6_stopsSafely 80 81 (.pop) := ⟨by decide +kernel, rfl⟩
theorem eX6_stopsSafely_81 : zd 3 cX6_stopsSafely 81 84 (.iinc 2 1) := ⟨by decide +kernel, rfl⟩
theorem eX6_stopsSafely_84 : zdi cX6_stopsSafely 84 87 30 (.goto) := ⟨(-54), by decide +kernel, rfl, by decide⟩
theorem eX6_stopsSafely_87 : zd 1 cX6_stopsSafely 87 88 (.aload_n 0) := ⟨by decide +kernel, rfl⟩
theorem eX6_stopsSafely_88 : zd 3 cX6_stopsSafely 88 91 (.getfield 18) := ⟨by decide +kernel, rfl⟩
theorem eX6_stopsSafely_91 : zd 3 cX6_stopsSafely 91 94 (.getfield 32) := ⟨by decide +kernel, rfl⟩
theorem eX6_stopsSafely_94 : zd 1 cX6_stopsSafely 94 95 (.aload_n 0) := ⟨by decide +kernel, rfl⟩
theorem eX6_stopsSafely_95 : zd 3 cX6_stopsSafely 95 98 (.getfield 12) := ⟨by decide +kernel, rfl⟩
theorem eX6_stopsSafely_98 : zd 3 cX6_stopsSafely 98 101 (.getfield 32) := ⟨by decide +kernel, rfl⟩
theorem eX6_stopsSafely_101 : zd 1 cX6_stopsSafely 101 102 (.lcmp) := ⟨by decide +kernel, rfl⟩
theorem eX6_stopsSafely_102 : zdi cX6_stopsSafely 102 105 120 (.ifCond .ne) := ⟨18, by decide +kernel, rfl, by decide⟩
theorem eX6_stopsSafely_105 : zd 1 cX6_stopsSafely 105 106 (.aload_n 0) := ⟨by decide +kernel, rfl⟩
theorem eX6_stopsSafely_106 : zd 3 cX6_stopsSafely 106 109 (.getfield 18) := ⟨by decide +kernel, rfl⟩
theorem eX6_stopsSafely_109 : zd 1 cX6_stopsSafely 109 110 (.aload_n 1) := ⟨by decide +kernel, rfl⟩
theorem eX6_stopsSafely_110 : zd 3 cX6_stopsSafely 110 113 (.invokevirtual 54) := ⟨by decide +kernel, rfl⟩
theorem eX6_stopsSafely_113 : zdi cX6_stopsSafely 113 116 120 (.ifCond .eq) := ⟨7, by decide +kernel, rfl, by decide⟩
theorem eX6_stopsSafely_116 : zd 1 cX6_stopsSafely 116 117 (.iconst 1) := ⟨by decide +kernel, rfl⟩
theorem eX6_stopsSafely_117 : zdi cX6_stopsSafely 117 120 121 (.goto) := ⟨4, by decide +kernel, rfl, by decide⟩
theorem eX6_stopsSafely_120 : zd 1 cX6_stopsSafely 120 121 (.iconst 0) := ⟨by decide +kernel, rfl⟩
theorem eX6_stopsSafely_121 : zd 1 cX6_stopsSafely 121 122 (.ireturn) := ⟨by decide +kernel, rfl⟩
theorem FX6_51 : zlF RX6 51 7 3 := ⟨(RX7, TX7, 18), rfl, by decide, q235, zin7⟩
noncomputable def fB_Se_stopsSafely_30 (v0 : tSe) (v1 : tQu) (r1 : (Nat → Int32) × Int64 × (Nat → Int32) × (Nat → Int32) × (Nat → Int32) × (Nat → Int32)) (ih : (Int32 × (Nat → Int32) × Int64 × (Nat → Int32)) → Option (Int32 × (Nat → Int32) × Int64 × (Nat → Int32))) (s2 : Int32 × (Nat → Int32) × Int64 × (Nat → Int32)) : Option (Int32 × (Nat → Int32) × Int64 × (Nat → Int32)) := (if 60 ≤ (s2.1) then (some ((s2.1), (s2.2.1), (s2.2.2.1), (s2.2.2.2))) else (if (s2.2.2.1) = (gSh_harm (gSe_base v0)) then (zlet (if 0 < ((s2.2.1) 3) then (s2.2.1) else (upd (s2.2.1) 6 0)) (fun (w9 : (Nat → Int32)) => (Option.bind (f_Sh_passSecond (sSh_lines (sSh_harm (sSh_ints (gSe_probe v0) w9) (s2.2.2.1)) (sLi_length (sLi_post (sLi_place (sLi_fast (gSh_lines (gSe_probe v0)) (s2.2.2.2)) (r1.2.2.2.1)) (r1.2.2.2.2.1)) (r1.2.2.2.2.2))) v1) (fun (r12 : Int32 × (Nat → Int32) × Int64 × (Nat → Int32)) => (ih (((s2.1) + 1), (r12.2.1), (r12.2.2.1), (r12.2.2.2))))))) else (some ((s2.1), (s2.2.1), (s2.2.2.1), (s2.2.2.2)))))
noncomputable def f_Se_stopsSafely (v0 : tSe) (v1 : tQu)  : Option (Int32 × (Nat → Int32) × Int64 × (Nat → Int32) × (Nat → Int32) × (Nat → Int32) × (Nat → Int32)) := (Option.bind (f_Sh_copyFrom (gSe_probe v0) (gSe_base v0)) (fun (r1 : (Nat → Int32) × Int64 × (Nat → Int32) × (Nat → Int32) × (Nat → Int32) × (Nat → Int32)) => (Option.bind (lp (fB_Se_stopsSafely_30 v0 v1 r1) LF (0, (upd (upd (r1.1) 6 (-2)) 7 0), (r1.2.1), (r1.2.2.1))) (fun (q3 : Int32 × (Nat → Int32) × Int64 × (Nat → Int32)) => (if (q3.2.2.1) = (gSh_harm (gSe_base v0)) then (if (f_Sh_isSafe (sSh_lines (sSh_harm (sSh_ints (gSe_probe v0) (q3.2.1)) (q3.2.2.1)) (sLi_length (sLi_post (sLi_place (sLi_fast (gSh_lines (gSe_probe v0)) (q3.2.2.2)) (r1.2.2.2.1)) (r1.2.2.2.2.1)) (r1.2.2.2.2.2))) v1) = 0 then (some (0, (q3.2.1), (q3.2.2.1), (q3.2.2.2), (r1.2.2.2.1), (r1.2.2.2.2.1), (r1.2.2.2.2.2))) else (some (1, (q3.2.1), (q3.2.2.1), (q3.2.2.2), (r1.2.2.2.1), (r1.2.2.2.2.1), (r1.2.2.2.2.2)))) else (some (0, (q3.2.1), (q3.2.2.1), (q3.2.2.2), (r1.2.2.2.1), (r1.2.2.2.2.1), (r1.2.2.2.2.2))))))))
abbrev rm_Se_stopsSafely : Room := { frames := 4, cells := 0, slots := 0, locals := 102 }
set_option maxHeartbeats 4000000 in
set_option maxRecDepth 100000 in
theorem c_Se_stopsSafely (l : Launch) (g : zGl) (a0 : Nat → Nat) (o0 : Nat) (v0 : tSe) (a1 : Nat → Nat) (o1 : Nat) (v1 : tQu)  (out : Int32 × (Nat → Int32) × Int64 × (Nat → Int32) × (Nat → Int32) × (Nat → Int32) × (Nat → Int32)) (hf : f_Se_stopsSafely v0 v1 = some out) : zMz l yX6_stopsSafely cX6_stopsSafely 3 rm_Se_stopsSafely g [.ref (a0 o0), .ref (a1 o1)] (w_Se g a0 o0 v0 ++ w_Qu g a1 o1 v1) (out.1) (w_Se g a0 o0 (sSe_probe v0 (sSh_lines (sSh_harm (sSh_ints (gSe_probe v0) (out.2.1)) (out.2.2.1)) (sLi_length (sLi_post (sLi_place (sLi_fast (gSh_lines (gSe_probe v0)) (out.2.2.2.1)) (out.2.2.2.2.1)) (out.2.2.2.2.2.1)) (out.2.2.2.2.2.2)))) ++ w_Qu g a1 o1 v1) := by
  refine zMz_of (lv := [(0, .ref (a0 o0)), (1, .ref (a1 o1))]) (by decide) (Nat.le_of_ble_eq_true rfl) rfl (fun x hl hg C hret => ?_)
  subst hl; subst hg
  rw [f_Se_stopsSafely] at hf
  refine r_aload_n C eX6_stopsSafely_0 0 rfl rfl ?_
  refine r_get (v := .ref (a0 (o0 + 7))) C eX6_stopsSafely_1 FX6_18 0 rfl rfl ?_
  refine r_aload_n C eX6_stopsSafely_4 0 rfl rfl ?_
  refine r_get (v := .ref (a0 (o0 + 1))) C eX6_stopsSafely_5 FX6_12 0 rfl rfl ?_
  obtain ⟨r1, hr1, hf⟩ := zbind hf
  refine r_V_v (ws' := w_Se (z_g x) a0 o0 (sSe_probe v0 (sSh_lines (sSh_harm (sSh_ints (gSe_probe v0) (r1.1)) (r1.2.1)) (sLi_length (sLi_post (sLi_place (sLi_fast (gSh_lines (gSe_probe v0)) (r1.2.2.1)) (r1.2.2.2.1)) (r1.2.2.2.2.1)) (r1.2.2.2.2.2)))) ++ w_Qu (z_g x) a1 o1 v1) C (c_Sh_copyFrom (z_l x) (z_g x) a0 (o0 + 7) (gSe_probe v0) a0 (o0 + 1) (gSe_base v0)  r1 hr1) eX6_stopsSafely_8 MX6_28 ⟨0, 7, _, _, rfl, rfl, rfl⟩ [7, 8, 9, 10, 11, 12, 1, 2, 3, 4, 5, 6] rfl rfl rfl rfl rfl rfl rfl rfl rfl ?_
  refine r_aload_n C eX6_stopsSafely_11 0 rfl rfl ?_
  refine r_get (v := .ref (a0 (o0 + 7))) C eX6_stopsSafely_12 FX6_18 0 rfl rfl ?_
  refine r_bipush C (v := (-2)) eX6_stopsSafely_15 (by decide) ?_
  refine r_put (ws' := w_Se (z_g x) a0 o0 (sSe_probe v0 (sSh_lines (sSh_harm (sSh_ints (gSe_probe v0) (upd (r1.1) 6 (-2))) (r1.2.1)) (sLi_length (sLi_post (sLi_place (sLi_fast (gSh_lines (gSe_probe v0)) (r1.2.2.1)) (r1.2.2.2.1)) (r1.2.2.2.2.1)) (r1.2.2.2.2.2)))) ++ w_Qu (z_g x) a1 o1 v1) C eX6_stopsSafely_17 PX6_44 7 rfl rfl rfl (Nat.le_of_ble_eq_true rfl) rfl ?_
  refine r_aload_n C eX6_stopsSafely_20 0 rfl rfl ?_
  refine r_get (v := .ref (a0 (o0 + 7))) C eX6_stopsSafely_21 FX6_18 0 rfl rfl ?_
  refine r_iconst C (v := 0) eX6_stopsSafely_24 (by decide) ?_
  refine r_put (ws' := w_Se (z_g x) a0 o0 (sSe_probe v0 (sSh_lines (sSh_harm (sSh_ints (gSe_probe v0) (upd (upd (r1.1) 6 (-2)) 7 0)) (r1.2.1)) (sLi_length (sLi_post (sLi_place (sLi_fast (gSh_lines (gSe_probe v0)) (r1.2.2.1)) (r1.2.2.2.1)) (r1.2.2.2.2.1)) (r1.2.2.2.2.2)))) ++ w_Qu (z_g x) a1 o1 v1) C eX6_stopsSafely_25 PX6_48 7 rfl rfl rfl (Nat.le_of_ble_eq_true rfl) rfl ?_
  refine r_iconst C (v := 0) eX6_stopsSafely_28 (by decide) ?_
  refine r_istore_n C [(2, .int 0), (0, .ref (a0 o0)), (1, .ref (a1 o1))] eX6_stopsSafely_29 rfl (by decide) rfl ?_
  obtain ⟨q3, h4, hf⟩ := zbind hf
  have J5 : vV x 3 0 0 (w_Se (z_g x) a0 o0 (sSe_probe v0 (sSh_lines (sSh_harm (sSh_ints (gSe_probe v0) (q3.2.1)) (q3.2.2.1)) (sLi_length (sLi_post (sLi_place (sLi_fast (gSh_lines (gSe_probe v0)) (q3.2.2.2)) (r1.2.2.2.1)) (r1.2.2.2.2.1)) (r1.2.2.2.2.2)))) ++ w_Qu (z_g x) a1 o1 v1) 87 [(0, .ref (a0 o0)), (1, .ref (a1 o1))] [] := by
    refine r_aload_n C eX6_stopsSafely_87 0 rfl rfl ?_
    refine r_get (v := .ref (a0 (o0 + 7))) C eX6_stopsSafely_88 FX6_18 0 rfl rfl ?_
    refine r_get (v := .long (q3.2.2.1)) C eX6_stopsSafely_91 FX6_32 7 rfl rfl ?_
    refine r_aload_n C eX6_stopsSafely_94 0 rfl rfl ?_
    refine r_get (v := .ref (a0 (o0 + 1))) C eX6_stopsSafely_95 FX6_12 0 rfl rfl ?_
    refine r_get (v := .long (gSh_harm (gSe_base v0))) C eX6_stopsSafely_98 FX6_32 1 rfl rfl ?_
    refine r_lcmp_ne C eX6_stopsSafely_101 eX6_stopsSafely_102 (fun c13 => ?_) (fun c13 => ?_)
    · rw [if_neg c13] at hf
      refine r_iconst C (v := 0) eX6_stopsSafely_120 (by decide) ?_
      obtain rfl := Option.some.inj (show some ((0, (q3.2.1), (q3.2.2.1), (q3.2.2.2), (r1.2.2.2.1), (r1.2.2.2.2.1), (r1.2.2.2.2.2)) : Int32 × (Nat → Int32) × Int64 × (Nat → Int32) × (Nat → Int32) × (Nat → Int32) × (Nat → Int32)) = some _ from hf)
      exact hret _ _ _ eX6_stopsSafely_121 zB0
    · rw [if_pos c13] at hf
      refine r_aload_n C eX6_stopsSafely_105 0 rfl rfl ?_
      refine r_get (v := .ref (a0 (o0 + 7))) C eX6_stopsSafely_106 FX6_18 0 rfl rfl ?_
      refine r_aload_n C eX6_stopsSafely_109 1 rfl rfl ?_
      refine r_V_z (ws' := w_Se (z_g x) a0 o0 (sSe_probe v0 (sSh_lines (sSh_harm (sSh_ints (gSe_probe v0) (q3.2.1)) (q3.2.2.1)) (sLi_length (sLi_post (sLi_place (sLi_fast (gSh_lines (gSe_probe v0)) (q3.2.2.2)) (r1.2.2.2.1)) (r1.2.2.2.2.1)) (r1.2.2.2.2.2)))) ++ w_Qu (z_g x) a1 o1 v1) C (c_Sh_isSafe (z_l x) (z_g x) a0 (o0 + 7) (sSh_lines (sSh_harm (sSh_ints (gSe_probe v0) (q3.2.1)) (q3.2.2.1)) (sLi_length (sLi_post (sLi_place (sLi_fast (gSh_lines (gSe_probe v0)) (q3.2.2.2)) (r1.2.2.2.1)) (r1.2.2.2.2.1)) (r1.2.2.2.2.2))) a1 o1 v1  _ rfl) eX6_stopsSafely_110 MX6_54 ⟨0, 7, _, _, rfl, rfl, rfl⟩ [7, 8, 9, 10, 11, 12, 16, 17, 18] rfl rfl rfl rfl rfl rfl rfl rfl rfl (fun zb14 => ?_)
      refine r_if_eq C eX6_stopsSafely_113 (fun c15 => ?_) (fun c15 => ?_)
      · rw [if_pos c15] at hf
        refine r_iconst C (v := 0) eX6_stopsSafely_120 (by decide) ?_
        obtain rfl := Option.some.inj (show some ((0, (q3.2.1), (q3.2.2.1), (q3.2.2.2), (r1.2.2.2.1), (r1.2.2.2.2.1), (r1.2.2.2.2.2)) : Int32 × (Nat → Int32) × Int64 × (Nat → Int32) × (Nat → Int32) × (Nat → Int32) × (Nat → Int32)) = some _ from hf)
        exact hret _ _ _ eX6_stopsSafely_121 zB0
      · rw [if_neg c15] at hf
        refine r_iconst C (v := 1) eX6_stopsSafely_116 (by decide) ?_
        refine r_goto C eX6_stopsSafely_117 ?_
        obtain rfl := Option.some.inj (show some ((1, (q3.2.1), (q3.2.2.1), (q3.2.2.2), (r1.2.2.2.1), (r1.2.2.2.2.1), (r1.2.2.2.2.2)) : Int32 × (Nat → Int32) × Int64 × (Nat → Int32) × (Nat → Int32) × (Nat → Int32) × (Nat → Int32)) = some _ from hf)
        exact hret _ _ _ eX6_stopsSafely_121 zB1
  have L6 : ∀ (nL6 : Nat) (s2 : Int32 × (Nat → Int32) × Int64 × (Nat → Int32)), lp (fB_Se_stopsSafely_30 v0 v1 r1) nL6 s2 = some q3 → vV x 3 0 0 (w_Se (z_g x) a0 o0 (sSe_probe v0 (sSh_lines (sSh_harm (sSh_ints (gSe_probe v0) (s2.2.1)) (s2.2.2.1)) (sLi_length (sLi_post (sLi_place (sLi_fast (gSh_lines (gSe_probe v0)) (s2.2.2.2)) (r1.2.2.2.1)) (r1.2.2.2.2.1)) (r1.2.2.2.2.2)))) ++ w_Qu (z_g x) a1 o1 v1) 30 [(0, .ref (a0 o0)), (1, .ref (a1 o1)), (2, .int (s2.1))] [] := by
    intro nL6
    induction nL6 with
    | zero => intro s2 hq; cases hq
    | succ nL6 ihL6 =>
      intro s2 hbL6
      rw [lp_succ, fB_Se_stopsSafely_30] at hbL6
      refine r_iload_n C eX6_stopsSafely_30 2 rfl rfl ?_
      refine r_bipush C (v := 60) eX6_stopsSafely_31 (by decide) ?_
      refine r_icmp_ge C eX6_stopsSafely_33 (fun c7 => ?_) (fun c7 => ?_)
      · rw [if_pos c7] at hbL6
        obtain rfl := Option.some.inj hbL6
        refine r_sub (lv' := [(0, .ref (a0 o0)), (1, .ref (a1 o1))]) [0, 1] rfl ?_
        exact J5
      · rw [if_neg c7] at hbL6
        refine r_aload_n C eX6_stopsSafely_36 0 rfl rfl ?_
        refine r_get (v := .ref (a0 (o0 + 7))) C eX6_stopsSafely_37 FX6_18 0 rfl rfl ?_
        refine r_get (v := .long (s2.2.2.1)) C eX6_stopsSafely_40 FX6_32 7 rfl rfl ?_
        refine r_aload_n C eX6_stopsSafely_43 0 rfl rfl ?_
        refine r_get (v := .ref (a0 (o0 + 1))) C eX6_stopsSafely_44 FX6_12 0 rfl rfl ?_
        refine r_get (v := .long (gSh_harm (gSe_base v0))) C eX6_stopsSafely_47 FX6_32 1 rfl rfl ?_
        refine r_lcmp_ne C eX6_stopsSafely_50 eX6_stopsSafely_51 (fun c8 => ?_) (fun c8 => ?_)
        · rw [if_neg c8] at hbL6
          obtain rfl := Option.some.inj hbL6
          refine r_sub (lv' := [(0, .ref (a0 o0)), (1, .ref (a1 o1))]) [0, 1] rfl ?_
          exact J5
        · rw [if_pos c8] at hbL6
          refine r_aload_n C eX6_stopsSafely_54 0 rfl rfl ?_
          refine r_get (v := .ref (a0 (o0 + 7))) C eX6_stopsSafely_55 FX6_18 0 rfl rfl ?_
          refine r_get (v := .int ((s2.2.1) 3)) C eX6_stopsSafely_58 FX6_51 7 rfl rfl ?_
          obtain ⟨w9, hw9, hbL6⟩ := zlet_of hbL6
          have J10 : vV x 3 0 0 (w_Se (z_g x) a0 o0 (sSe_probe v0 (sSh_lines (sSh_harm (sSh_ints (gSe_probe v0) w9) (s2.2.2.1)) (sLi_length (sLi_post (sLi_place (sLi_fast (gSh_lines (gSe_probe v0)) (s2.2.2.2)) (r1.2.2.2.1)) (r1.2.2.2.2.1)) (r1.2.2.2.2.2)))) ++ w_Qu (z_g x) a1 o1 v1) 72 [(0, .ref (a0 o0)), (1, .ref (a1 o1)), (2, .int (s2.1))] [] := by
            refine r_aload_n C eX6_stopsSafely_72 0 rfl rfl ?_
            refine r_get (v := .ref (a0 (o0 + 7))) C eX6_stopsSafely_73 FX6_18 0 rfl rfl ?_
            refine r_aload_n C eX6_stopsSafely_76 1 rfl rfl ?_
            obtain ⟨r12, hr12, hbL6⟩ := zbind hbL6
            refine r_V_i (ws' := w_Se (z_g x) a0 o0 (sSe_probe v0 (sSh_lines (sSh_harm (sSh_ints (gSe_probe v0) (r12.2.1)) (r12.2.2.1)) (sLi_length (sLi_post (sLi_place (sLi_fast (gSh_lines (gSe_probe v0)) (r12.2.2.2)) (r1.2.2.2.1)) (r1.2.2.2.2.1)) (r1.2.2.2.2.2)))) ++ w_Qu (z_g x) a1 o1 v1) C (c_Sh_passSecond (z_l x) (z_g x) a0 (o0 + 7) (sSh_lines (sSh_harm (sSh_ints (gSe_probe v0) w9) (s2.2.2.1)) (sLi_length (sLi_post (sLi_place (sLi_fast (gSh_lines (gSe_probe v0)) (s2.2.2.2)) (r1.2.2.2.1)) (r1.2.2.2.2.1)) (r1.2.2.2.2.2))) a1 o1 v1  r12 hr12) eX6_stopsSafely_77 MX6_40 ⟨0, 7, _, _, rfl, rfl, rfl⟩ [7, 8, 9, 10, 11, 12, 16, 17, 18] rfl rfl rfl rfl rfl rfl rfl rfl rfl ?_
            refine r_pop C eX6_stopsSafely_80 rfl ?_
            refine r_iinc C (v := ((s2.1) + 1)) [(2, .int ((s2.1) + 1)), (0, .ref (a0 o0)), (1, .ref (a1 o1))] eX6_stopsSafely_81 2 rfl rfl (by decide) rfl ?_
            refine r_goto C eX6_stopsSafely_84 ?_
            refine r_sub (lv' := [(0, .ref (a0 o0)), (1, .ref (a1 o1)), (2, .int ((s2.1) + 1))]) [1, 2, 0] rfl ?_
            exact ihL6 (((s2.1) + 1), (r12.2.1), (r12.2.2.1), (r12.2.2.2)) hbL6
          refine r_if_gt C eX6_stopsSafely_61 (fun c11 => ?_) (fun c11 => ?_)
          · rw [if_pos c11] at hw9
            subst hw9
            exact J10
          · rw [if_neg c11] at hw9
            refine r_aload_n C eX6_stopsSafely_64 0 rfl rfl ?_
            refine r_get (v := .ref (a0 (o0 + 7))) C eX6_stopsSafely_65 FX6_18 0 rfl rfl ?_
            refine r_iconst C (v := 0) eX6_stopsSafely_68 (by decide) ?_
            refine r_put (ws' := w_Se (z_g x) a0 o0 (sSe_probe v0 (sSh_lines (sSh_harm (sSh_ints (gSe_probe v0) (upd (s2.2.1) 6 0)) (s2.2.2.1)) (sLi_length (sLi_post (sLi_place (sLi_fast (gSh_lines (gSe_probe v0)) (s2.2.2.2)) (r1.2.2.2.1)) (r1.2.2.2.2.1)) (r1.2.2.2.2.2)))) ++ w_Qu (z_g x) a1 o1 v1) C eX6_stopsSafely_69 PX6_44 7 rfl rfl rfl (Nat.le_of_ble_eq_true rfl) rfl ?_
            subst hw9
            exact J10
  refine r_sub (lv' := [(0, .ref (a0 o0)), (1, .ref (a1 o1)), (2, .int 0)]) [1, 2, 0] rfl ?_
  exact L6 LF (0, (upd (upd (r1.1) 6 (-2)) 7 0), (r1.2.1), (r1.2.2.1)) h4
theorem eX6_leastAstern_0 : zd 1 cX6_leastAstern 0 1 (.aload_n 0) := ⟨by decide +kernel, rfl⟩
theorem eX6_leastAstern_1 : zd 3 cX6_leastAstern 1 4 (.getfield 12) := ⟨by decide +kernel, rfl⟩
theorem eX6_leastAstern_4 : zd 1 cX6_leastAstern 4 5 (.aload_n 2) := ⟨by decide +kernel, rfl⟩
theorem eX6_leastAstern_5 : zd 3 cX6_leastAstern 5 8 (.invokevirtual 28) := ⟨by decide +kernel, rfl⟩
theorem eX6_leastAstern_8 : zd 1 cX6_leastAstern 8 9 (.iconst 0) := ⟨by decide +kernel, rfl⟩
theorem eX6_leastAstern_9 : zd 1 cX6_leastAstern 9 10 (.istore_n 3) := ⟨by decide +kernel, rfl⟩
theorem eX6_leastAstern_10 : zd 1 cX6_leastAstern 10 11 (.iload_n 3) := ⟨by decide +kernel, rfl⟩
theorem eX6_leastAstern_11 : zd 2 cX6_leastAstern 11 13 (.bipush 120) := ⟨by decide +kernel, rfl⟩
theorem eX6_leastAstern_13 : zdi cX6_leastAstern 13 16 56 (.if_icmp .gt) := ⟨43, by decide +kernel, rfl, by decide⟩
theorem eX6_leastAstern_16 : zd 1 cX6_leastAstern 16 17 (.aload_n 0) := ⟨by decide +kernel, rfl⟩
theorem eX6_leastAstern_17 : zd 3 cX6_leastAstern 17 20 (.getfield 12) := ⟨by decide +kernel, rfl⟩
theorem eX6_leastAstern_20 : zd 3 cX6_leastAstern 20 23 (.getfield 32) := ⟨by decide +kernel, rfl⟩
theorem eX6_leastAstern_23 : zd 1 cX6_leastAstern 23 24 (.aload_n 2) := ⟨by decide +kernel, rfl⟩
theorem eX6_leastAstern_24 : zd 3 cX6_leastAstern 24 27 (.getfield 32) := ⟨by decide +kernel, rfl⟩
theorem eX6_leastAstern_27 : zd 1 cX6_leastAstern 27 28 (.lcmp) := ⟨by decide +kernel, rfl⟩
theorem eX6_leastAstern_28 : zdi cX6_leastAstern 28 31 56 (.ifCond .ne) := ⟨28, by decide +kernel, rfl, by decide⟩
theorem eX6_leastAstern_31 : zd 1 cX6_leastAstern 31 32 (.aload_n 0) := ⟨by decide +kernel, rfl⟩
theorem eX6_leastAstern_32 : zd 1 cX6_leastAstern 32 33 (.aload_n 1) := ⟨by decide +kernel, rfl⟩
theorem eX6_leastAstern_33 : zd 3 cX6_leastAstern 33 36 (.invokevirtual 36) := ⟨by decide +kernel, rfl⟩
theorem eX6_leastAstern_36 : zdi cX6_leastAstern 36 39 41 (.ifCond .eq) := ⟨5, by decide +kernel, rfl, by decide⟩
theorem eX6_leastAstern_39 : zd 1 cX6_leastAstern 39 40 (.iload_n 3) := ⟨by decide +kernel, rfl⟩
theorem eX6_leastAstern_40 : zd 1 cX6_leastAstern 40 41 (.ireturn) := ⟨by decide +kernel, rfl⟩
theorem eX6_leastAstern_41 : zd 1 cX6_leastAstern 41 42 (.aload_n 0) := ⟨by decide +kernel, rfl⟩
theorem eX6_leastAstern_42 : zd 3 cX6_leastAstern 42 45 (.getfield 12) := ⟨by decide +kernel, rfl⟩
theorem eX6_leastAstern_45 : zd 1 cX6_leastAstern 45 46 (.aload_n 1) := ⟨by decide +kernel, rfl⟩
theorem eX6_leastAstern_46 : zd 3 cX6_leastAstern 46 49 (.invokevirtual 40) := ⟨by decide +kernel, rfl⟩
theorem eX6_leastAstern_49 : zd 1 cX6_leastAstern 49 50 (.pop) := ⟨by decide +kernel, rfl⟩
theorem eX6_leastAstern_50 : zd 3 cX6_leastAstern 50 53 (.iinc 3 1) := ⟨by decide +kernel, rfl⟩
theorem eX6_leastAstern_53 : zdi cX6_leastAstern 53 56 10 (.goto) := ⟨(-43), by decide +kernel, rfl, by decide⟩
theorem eX6_leastAstern_56 : zd 1 cX6_leastAstern 56 57 (.iconst (-1)) := ⟨by decide +kernel, rfl⟩
theorem eX6_leastAstern_57 : zd 1 cX6_leastAstern 57 58 (.ireturn) := ⟨by decide +kernel, rfl⟩
theorem MX6_36 : zlV RX6 36 yX6_stopsSafely cX6_stopsSafely 3 ((Option.some FieldType.boolean)) 1 := ⟨q893, q895, qs19, q9, q896, by decide, by decide, by decide +kernel⟩
noncomputable def fB_Se_leastAstern_10 (v0 : tSe) (v1 : tQu) (v2 : tSh) (r1 : (Nat → Int32) × Int64 × (Nat → Int32) × (Nat → Int32) × (Nat → Int32) × (Nat → Int32)) (ih : (Int32 × (Nat → Int32) × Int64 × (Nat → Int32) × (Nat → Int32) × Int64 × (Nat → Int32) × (Nat → Int32) × (Nat → Int32) × (Nat → Int32)) → Option ((Int32 × (Nat → Int32) × Int64 × (Nat → Int32) × (Nat → Int32) × (Nat → Int32) × (Nat → Int32) × (Nat → Int32) × Int64 × (Nat → Int32) × (Nat → Int32) × (Nat → Int32) × (Nat → Int32)) ⊕ (Int32 × (Nat → Int32) × Int64 × (Nat → Int32) × (Nat → Int32) × Int64 × (Nat → Int32) × (Nat → Int32) × (Nat → Int32) × (Nat → Int32)))) (s2 : Int32 × (Nat → Int32) × Int64 × (Nat → Int32) × (Nat → Int32) × Int64 × (Nat → Int32) × (Nat → Int32) × (Nat → Int32) × (Nat → Int32)) : Option ((Int32 × (Nat → Int32) × Int64 × (Nat → Int32) × (Nat → Int32) × (Nat → Int32) × (Nat → Int32) × (Nat → Int32) × Int64 × (Nat → Int32) × (Nat → Int32) × (Nat → Int32) × (Nat → Int32)) ⊕ (Int32 × (Nat → Int32) × Int64 × (Nat → Int32) × (Nat → Int32) × Int64 × (Nat → Int32) × (Nat → Int32) × (Nat → Int32) × (Nat → Int32))) := (if 120 < (s2.1) then (some (Sum.inr ((s2.1), (s2.2.1), (s2.2.2.1), (s2.2.2.2.1), (s2.2.2.2.2.1), (s2.2.2.2.2.2.1), (s2.2.2.2.2.2.2.1), (s2.2.2.2.2.2.2.2.1), (s2.2.2.2.2.2.2.2.2.1), (s2.2.2.2.2.2.2.2.2.2)))) else (if (s2.2.2.1) = (gSh_harm v2) then (Option.bind (f_Se_stopsSafely (sSe_probe (sSe_base v0 (sSh_lines (sSh_harm (sSh_ints (gSe_base v0) (s2.2.1)) (s2.2.2.1)) (sLi_length (sLi_post (sLi_place (sLi_fast (gSh_lines (gSe_base v0)) (s2.2.2.2.1)) (r1.2.2.2.1)) (r1.2.2.2.2.1)) (r1.2.2.2.2.2)))) (sSh_lines (sSh_harm (sSh_ints (gSe_probe v0) (s2.2.2.2.2.1)) (s2.2.2.2.2.2.1)) (sLi_length (sLi_post (sLi_place (sLi_fast (gSh_lines (gSe_probe v0)) (s2.2.2.2.2.2.2.1)) (s2.2.2.2.2.2.2.2.1)) (s2.2.2.2.2.2.2.2.2.1)) (s2.2.2.2.2.2.2.2.2.2)))) v1) (fun (r9 : Int32 × (Nat → Int32) × Int64 × (Nat → Int32) × (Nat → Int32) × (Nat → Int32) × (Nat → Int32)) => (if (r9.1) = 0 then (Option.bind (f_Sh_passSecond (sSh_lines (sSh_harm (sSh_ints (gSe_base v0) (s2.2.1)) (s2.2.2.1)) (sLi_length (sLi_post (sLi_place (sLi_fast (gSh_lines (gSe_base v0)) (s2.2.2.2.1)) (r1.2.2.2.1)) (r1.2.2.2.2.1)) (r1.2.2.2.2.2))) v1) (fun (r12 : Int32 × (Nat → Int32) × Int64 × (Nat → Int32)) => (ih (((s2.1) + 1), (r12.2.1), (r12.2.2.1), (r12.2.2.2), (r9.2.1), (r9.2.2.1), (r9.2.2.2.1), (r9.2.2.2.2.1), (r9.2.2.2.2.2.1), (r9.2.2.2.2.2.2))))) else (some (Sum.inl ((s2.1), (s2.2.1), (s2.2.2.1), (s2.2.2.2.1), (r1.2.2.2.1), (r1.2.2.2.2.1), (r1.2.2.2.2.2), (r9.2.1), (r9.2.2.1), (r9.2.2.2.1), (r9.2.2.2.2.1), (r9.2.2.2.2.2.1), (r9.2.2.2.2.2.2))))))) else (some (Sum.inr ((s2.1), (s2.2.1), (s2.2.2.1), (s2.2.2.2.1), (s2.2.2.2.2.1), (s2.2.2.2.2.2.1), (s2.2.2.2.2.2.2.1), (s2.2.2.2.2.2.2.2.1), (s2.2.2.2.2.2.2.2.2.1), (s2.2.2.2.2.2.2.2.2.2))))))
noncomputable def f_Se_leastAstern (v0 : tSe) (v1 : tQu) (v2 : tSh)  : Option (Int32 × (Nat → Int32) × Int64 × (Nat → Int32) × (Nat → Int32) × (Nat → Int32) × (Nat → Int32) × (Nat → Int32) × Int64 × (Nat → Int32) × (Nat → Int32) × (Nat → Int32) × (Nat → Int32)) := (Option.bind (f_Sh_copyFrom (gSe_base v0) v2) (fun (r1 : (Nat → Int32) × Int64 × (Nat → Int32) × (Nat → Int32) × (Nat → Int32) × (Nat → Int32)) => (Option.bind (lp (fB_Se_leastAstern_10 v0 v1 v2 r1) LF (0, (r1.1), (r1.2.1), (r1.2.2.1), (gSh_ints (gSe_probe v0)), (gSh_harm (gSe_probe v0)), (gLi_fast (gSh_lines (gSe_probe v0))), (gLi_place (gSh_lines (gSe_probe v0))), (gLi_post (gSh_lines (gSe_probe v0))), (gLi_length (gSh_lines (gSe_probe v0))))) (fun (q3 : (Int32 × (Nat → Int32) × Int64 × (Nat → Int32) × (Nat → Int32) × (Nat → Int32) × (Nat → Int32) × (Nat → Int32) × Int64 × (Nat → Int32) × (Nat → Int32) × (Nat → Int32) × (Nat → Int32)) ⊕ (Int32 × (Nat → Int32) × Int64 × (Nat → Int32) × (Nat → Int32) × Int64 × (Nat → Int32) × (Nat → Int32) × (Nat → Int32) × (Nat → Int32))) => Sum.elim (fun r => (some r)) (fun (s2e : Int32 × (Nat → Int32) × Int64 × (Nat → Int32) × (Nat → Int32) × Int64 × (Nat → Int32) × (Nat → Int32) × (Nat → Int32) × (Nat → Int32)) => (some ((-1), (s2e.2.1), (s2e.2.2.1), (s2e.2.2.2.1), (r1.2.2.2.1), (r1.2.2.2.2.1), (r1.2.2.2.2.2), (s2e.2.2.2.2.1), (s2e.2.2.2.2.2.1), (s2e.2.2.2.2.2.2.1), (s2e.2.2.2.2.2.2.2.1), (s2e.2.2.2.2.2.2.2.2.1), (s2e.2.2.2.2.2.2.2.2.2)))) q3))))
abbrev rm_Se_leastAstern : Room := { frames := 5, cells := 0, slots := 0, locals := 124 }
set_option maxHeartbeats 4000000 in
set_option maxRecDepth 100000 in
theorem c_Se_leastAstern (l : Launch) (g : zGl) (a0 : Nat → Nat) (o0 : Nat) (v0 : tSe) (a1 : Nat → Nat) (o1 : Nat) (v1 : tQu) (a2 : Nat → Nat) (o2 : Nat) (v2 : tSh)  (out : Int32 × (Nat → Int32) × Int64 × (Nat → Int32) × (Nat → Int32) × (Nat → Int32) × (Nat → Int32) × (Nat → Int32) × Int64 × (Nat → Int32) × (Nat → Int32) × (Nat → Int32) × (Nat → Int32)) (hf : f_Se_leastAstern v0 v1 v2 = some out) : zMi l yX6_leastAstern cX6_leastAstern 4 rm_Se_leastAstern g [.ref (a0 o0), .ref (a1 o1), .ref (a2 o2)] (w_Se g a0 o0 v0 ++ w_Qu g a1 o1 v1 ++ w_Sh g a2 o2 v2) (out.1) (w_Se g a0 o0 (sSe_probe (sSe_base v0 (sSh_lines (sSh_harm (sSh_ints (gSe_base v0) (out.2.1)) (out.2.2.1)) (sLi_length (sLi_post (sLi_place (sLi_fast (gSh_lines (gSe_base v0)) (out.2.2.2.1)) (out.2.2.2.2.1)) (out.2.2.2.2.2.1)) (out.2.2.2.2.2.2.1)))) (sSh_lines (sSh_harm (sSh_ints (gSe_probe v0) (out.2.2.2.2.2.2.2.1)) (out.2.2.2.2.2.2.2.2.1)) (sLi_length (sLi_post (sLi_place (sLi_fast (gSh_lines (gSe_probe v0)) (out.2.2.2.2.2.2.2.2.2.1)) (out.2.2.2.2.2.2.2.2.2.2.1)) (out.2.2.2.2.2.2.2.2.2.2.2.1)) (out.2.2.2.2.2.2.2.2.2.2.2.2)))) ++ w_Qu g a1 o1 v1 ++ w_Sh g a2 o2 v2) := by
  refine zMi_of (lv := [(0, .ref (a0 o0)), (1, .ref (a1 o1)), (2, .ref (a2 o2))]) (by decide) (Nat.le_of_ble_eq_true rfl) rfl (fun x hl hg C hret => ?_)
  subst hl; subst hg
  rw [f_Se_leastAstern] at hf
  refine r_aload_n C eX6_leastAstern_0 0 rfl rfl ?_
  refine r_get (v := .ref (a0 (o0 + 1))) C eX6_leastAstern_1 FX6_12 0 rfl rfl ?_
  refine r_aload_n C eX6_leastAstern_4 2 rfl rfl ?_
  obtain ⟨r1, hr1, hf⟩ := zbind hf
  refine r_V_v (ws' := w_Se (z_g x) a0 o0 (sSe_base v0 (sSh_lines (sSh_harm (sSh_ints (gSe_base v0) (r1.1)) (r1.2.1)) (sLi_length (sLi_post (sLi_place (sLi_fast (gSh_lines (gSe_base v0)) (r1.2.2.1)) (r1.2.2.2.1)) (r1.2.2.2.2.1)) (r1.2.2.2.2.2)))) ++ w_Qu (z_g x) a1 o1 v1 ++ w_Sh (z_g x) a2 o2 v2) C (c_Sh_copyFrom (z_l x) (z_g x) a0 (o0 + 1) (gSe_base v0) a2 o2 v2  r1 hr1) eX6_leastAstern_5 MX6_28 ⟨0, 7, _, _, rfl, rfl, rfl⟩ [1, 2, 3, 4, 5, 6, 19, 20, 21, 22, 23, 24] rfl rfl rfl rfl rfl rfl rfl rfl rfl ?_
  refine r_iconst C (v := 0) eX6_leastAstern_8 (by decide) ?_
  refine r_istore_n C [(3, .int 0), (0, .ref (a0 o0)), (1, .ref (a1 o1)), (2, .ref (a2 o2))] eX6_leastAstern_9 rfl (by decide) rfl ?_
  obtain ⟨q3, h4, hf⟩ := zbind hf
  have J5 : ∀ s2e : Int32 × (Nat → Int32) × Int64 × (Nat → Int32) × (Nat → Int32) × Int64 × (Nat → Int32) × (Nat → Int32) × (Nat → Int32) × (Nat → Int32), q3 = Sum.inr s2e → vV x 4 0 0 (w_Se (z_g x) a0 o0 (sSe_probe (sSe_base v0 (sSh_lines (sSh_harm (sSh_ints (gSe_base v0) (s2e.2.1)) (s2e.2.2.1)) (sLi_length (sLi_post (sLi_place (sLi_fast (gSh_lines (gSe_base v0)) (s2e.2.2.2.1)) (r1.2.2.2.1)) (r1.2.2.2.2.1)) (r1.2.2.2.2.2)))) (sSh_lines (sSh_harm (sSh_ints (gSe_probe v0) (s2e.2.2.2.2.1)) (s2e.2.2.2.2.2.1)) (sLi_length (sLi_post (sLi_place (sLi_fast (gSh_lines (gSe_probe v0)) (s2e.2.2.2.2.2.2.1)) (s2e.2.2.2.2.2.2.2.1)) (s2e.2.2.2.2.2.2.2.2.1)) (s2e.2.2.2.2.2.2.2.2.2)))) ++ w_Qu (z_g x) a1 o1 v1 ++ w_Sh (z_g x) a2 o2 v2) 56 [] [] := by
    intro s2e hs
    subst hs
    rw [Sum.elim_inr] at hf
    refine r_iconst C (v := (-1)) eX6_leastAstern_56 (by decide) ?_
    obtain rfl := Option.some.inj (show some (((-1), (s2e.2.1), (s2e.2.2.1), (s2e.2.2.2.1), (r1.2.2.2.1), (r1.2.2.2.2.1), (r1.2.2.2.2.2), (s2e.2.2.2.2.1), (s2e.2.2.2.2.2.1), (s2e.2.2.2.2.2.2.1), (s2e.2.2.2.2.2.2.2.1), (s2e.2.2.2.2.2.2.2.2.1), (s2e.2.2.2.2.2.2.2.2.2)) : Int32 × (Nat → Int32) × Int64 × (Nat → Int32) × (Nat → Int32) × (Nat → Int32) × (Nat → Int32) × (Nat → Int32) × Int64 × (Nat → Int32) × (Nat → Int32) × (Nat → Int32) × (Nat → Int32)) = some _ from hf)
    exact hret _ _ _ eX6_leastAstern_57
  have L6 : ∀ (nL6 : Nat) (s2 : Int32 × (Nat → Int32) × Int64 × (Nat → Int32) × (Nat → Int32) × Int64 × (Nat → Int32) × (Nat → Int32) × (Nat → Int32) × (Nat → Int32)), lp (fB_Se_leastAstern_10 v0 v1 v2 r1) nL6 s2 = some q3 → vV x 4 0 0 (w_Se (z_g x) a0 o0 (sSe_probe (sSe_base v0 (sSh_lines (sSh_harm (sSh_ints (gSe_base v0) (s2.2.1)) (s2.2.2.1)) (sLi_length (sLi_post (sLi_place (sLi_fast (gSh_lines (gSe_base v0)) (s2.2.2.2.1)) (r1.2.2.2.1)) (r1.2.2.2.2.1)) (r1.2.2.2.2.2)))) (sSh_lines (sSh_harm (sSh_ints (gSe_probe v0) (s2.2.2.2.2.1)) (s2.2.2.2.2.2.1)) (sLi_length (sLi_post (sLi_place (sLi_fast (gSh_lines (gSe_probe v0)) (s2.2.2.2.2.2.2.1)) (s2.2.2.2.2.2.2.2.1)) (s2.2.2.2.2.2.2.2.2.1)) (s2.2.2.2.2.2.2.2.2.2)))) ++ w_Qu (z_g x) a1 o1 v1 ++ w_Sh (z_g x) a2 o2 v2) 10 [(0, .ref (a0 o0)), (1, .ref (a1 o1)), (2, .ref (a2 o2)), (3, .int (s2.1))] [] := by
    intro nL6
    induction nL6 with
    | zero => intro s2 hq; cases hq
    | succ nL6 ihL6 =>
      intro s2 hbL6
      rw [lp_succ, fB_Se_leastAstern_10] at hbL6
      refine r_iload_n C eX6_leastAstern_10 3 rfl rfl ?_
      refine r_bipush C (v := 120) eX6_leastAstern_11 (by decide) ?_
      refine r_icmp_gt C eX6_leastAstern_13 (fun c7 => ?_) (fun c7 => ?_)
      · rw [if_pos c7] at hbL6
        obtain rfl := Option.some.inj hbL6
        refine r_sub (lv' := []) [] rfl ?_
        exact J5 _ rfl
      · rw [if_neg c7] at hbL6
        refine r_aload_n C eX6_leastAstern_16 0 rfl rfl ?_
        refine r_get (v := .ref (a0 (o0 + 1))) C eX6_leastAstern_17 FX6_12 0 rfl rfl ?_
        refine r_get (v := .long (s2.2.2.1)) C eX6_leastAstern_20 FX6_32 1 rfl rfl ?_
        refine r_aload_n C eX6_leastAstern_23 2 rfl rfl ?_
        refine r_get (v := .long (gSh_harm v2)) C eX6_leastAstern_24 FX6_32 19 rfl rfl ?_
        refine r_lcmp_ne C eX6_leastAstern_27 eX6_leastAstern_28 (fun c8 => ?_) (fun c8 => ?_)
        · rw [if_neg c8] at hbL6
          obtain rfl := Option.some.inj hbL6
          refine r_sub (lv' := []) [] rfl ?_
          exact J5 _ rfl
        · rw [if_pos c8] at hbL6
          refine r_aload_n C eX6_leastAstern_31 0 rfl rfl ?_
          refine r_aload_n C eX6_leastAstern_32 1 rfl rfl ?_
          obtain ⟨r9, hr9, hbL6⟩ := zbind hbL6
          refine r_V_z (ws' := w_Se (z_g x) a0 o0 (sSe_probe (sSe_base v0 (sSh_lines (sSh_harm (sSh_ints (gSe_base v0) (s2.2.1)) (s2.2.2.1)) (sLi_length (sLi_post (sLi_place (sLi_fast (gSh_lines (gSe_base v0)) (s2.2.2.2.1)) (r1.2.2.2.1)) (r1.2.2.2.2.1)) (r1.2.2.2.2.2)))) (sSh_lines (sSh_harm (sSh_ints (gSe_probe v0) (r9.2.1)) (r9.2.2.1)) (sLi_length (sLi_post (sLi_place (sLi_fast (gSh_lines (gSe_probe v0)) (r9.2.2.2.1)) (r9.2.2.2.2.1)) (r9.2.2.2.2.2.1)) (r9.2.2.2.2.2.2)))) ++ w_Qu (z_g x) a1 o1 v1 ++ w_Sh (z_g x) a2 o2 v2) C (c_Se_stopsSafely (z_l x) (z_g x) a0 o0 (sSe_probe (sSe_base v0 (sSh_lines (sSh_harm (sSh_ints (gSe_base v0) (s2.2.1)) (s2.2.2.1)) (sLi_length (sLi_post (sLi_place (sLi_fast (gSh_lines (gSe_base v0)) (s2.2.2.2.1)) (r1.2.2.2.1)) (r1.2.2.2.2.1)) (r1.2.2.2.2.2)))) (sSh_lines (sSh_harm (sSh_ints (gSe_probe v0) (s2.2.2.2.2.1)) (s2.2.2.2.2.2.1)) (sLi_length (sLi_post (sLi_place (sLi_fast (gSh_lines (gSe_probe v0)) (s2.2.2.2.2.2.2.1)) (s2.2.2.2.2.2.2.2.1)) (s2.2.2.2.2.2.2.2.2.1)) (s2.2.2.2.2.2.2.2.2.2)))) a1 o1 v1  r9 hr9) eX6_leastAstern_33 MX6_36 ⟨0, 6, _, _, rfl, rfl, rfl⟩ [0, 1, 2, 3, 4, 5, 6, 7, 8, 9, 10, 11, 12, 13, 14, 15, 16, 17, 18] rfl rfl rfl rfl rfl rfl rfl rfl rfl (fun zb10 => ?_)
          refine r_if_eq C eX6_leastAstern_36 (fun c11 => ?_) (fun c11 => ?_)
          · rw [if_pos c11] at hbL6
            refine r_aload_n C eX6_leastAstern_41 0 rfl rfl ?_
            refine r_get (v := .ref (a0 (o0 + 1))) C eX6_leastAstern_42 FX6_12 0 rfl rfl ?_
            refine r_aload_n C eX6_leastAstern_45 1 rfl rfl ?_
            obtain ⟨r12, hr12, hbL6⟩ := zbind hbL6
            refine r_V_i (ws' := w_Se (z_g x) a0 o0 (sSe_probe (sSe_base v0 (sSh_lines (sSh_harm (sSh_ints (gSe_base v0) (r12.2.1)) (r12.2.2.1)) (sLi_length (sLi_post (sLi_place (sLi_fast (gSh_lines (gSe_base v0)) (r12.2.2.2)) (r1.2.2.2.1)) (r1.2.2.2.2.1)) (r1.2.2.2.2.2)))) (sSh_lines (sSh_harm (sSh_ints (gSe_probe v0) (r9.2.1)) (r9.2.2.1)) (sLi_length (sLi_post (sLi_place (sLi_fast (gSh_lines (gSe_probe v0)) (r9.2.2.2.1)) (r9.2.2.2.2.1)) (r9.2.2.2.2.2.1)) (r9.2.2.2.2.2.2)))) ++ w_Qu (z_g x) a1 o1 v1 ++ w_Sh (z_g x) a2 o2 v2) C (c_Sh_passSecond (z_l x) (z_g x) a0 (o0 + 1) (sSh_lines (sSh_harm (sSh_ints (gSe_base v0) (s2.2.1)) (s2.2.2.1)) (sLi_length (sLi_post (sLi_place (sLi_fast (gSh_lines (gSe_base v0)) (s2.2.2.2.1)) (r1.2.2.2.1)) (r1.2.2.2.2.1)) (r1.2.2.2.2.2))) a1 o1 v1  r12 hr12) eX6_leastAstern_46 MX6_40 ⟨0, 7, _, _, rfl, rfl, rfl⟩ [1, 2, 3, 4, 5, 6, 16, 17, 18] rfl rfl rfl rfl rfl rfl rfl rfl rfl ?_
            refine r_pop C eX6_leastAstern_49 rfl ?_
            refine r_iinc C (v := ((s2.1) + 1)) [(3, .int ((s2.1) + 1)), (0, .ref (a0 o0)), (1, .ref (a1 o1)), (2, .ref (a2 o2))] eX6_leastAstern_50 3 rfl rfl (by decide) rfl ?_
            refine r_goto C eX6_leastAstern_53 ?_
            refine r_sub (lv' := [(0, .ref (a0 o0)), (1, .ref (a1 o1)), (2, .ref (a2 o2)), (3, .int ((s2.1) + 1))]) [1, 2, 3, 0] rfl ?_
            exact ihL6 (((s2.1) + 1), (r12.2.1), (r12.2.2.1), (r12.2.2.2), (r9.2.1), (r9.2.2.1), (r9.2.2.2.1), (r9.2.2.2.2.1), (r9.2.2.2.2.2.1), (r9.2.2.2.2.2.2)) hbL6
          · rw [if_neg c11] at hbL6
            refine r_iload_n C eX6_leastAstern_39 3 rfl rfl ?_
            obtain rfl := Option.some.inj (show some (Sum.inl (((s2.1), (s2.2.1), (s2.2.2.1), (s2.2.2.2.1), (r1.2.2.2.1), (r1.2.2.2.2.1), (r1.2.2.2.2.2), (r9.2.1), (r9.2.2.1), (r9.2.2.2.1), (r9.2.2.2.2.1), (r9.2.2.2.2.2.1), (r9.2.2.2.2.2.2)) : Int32 × (Nat → Int32) × Int64 × (Nat → Int32) × (Nat → Int32) × (Nat → Int32) × (Nat → Int32) × (Nat → Int32) × Int64 × (Nat → Int32) × (Nat → Int32) × (Nat → Int32) × (Nat → Int32))) = some _ from hbL6)
            obtain rfl := Option.some.inj (show some (((s2.1), (s2.2.1), (s2.2.2.1), (s2.2.2.2.1), (r1.2.2.2.1), (r1.2.2.2.2.1), (r1.2.2.2.2.2), (r9.2.1), (r9.2.2.1), (r9.2.2.2.1), (r9.2.2.2.2.1), (r9.2.2.2.2.2.1), (r9.2.2.2.2.2.2)) : Int32 × (Nat → Int32) × Int64 × (Nat → Int32) × (Nat → Int32) × (Nat → Int32) × (Nat → Int32) × (Nat → Int32) × Int64 × (Nat → Int32) × (Nat → Int32) × (Nat → Int32) × (Nat → Int32)) = some _ from hf)
            exact hret _ _ _ eX6_leastAstern_40
  refine r_sub (lv' := [(0, .ref (a0 o0)), (1, .ref (a1 o1)), (2, .ref (a2 o2)), (3, .int 0)]) [1, 2, 3, 0] rfl ?_
  exact L6 LF (0, (r1.1), (r1.2.1), (r1.2.2.1), (gSh_ints (gSe_probe v0)), (gSh_harm (gSe_probe v0)), (gLi_fast (gSh_lines (gSe_probe v0))), (gLi_place (gSh_lines (gSe_probe v0))), (gLi_post (gSh_lines (gSe_probe v0))), (gLi_length (gSh_lines (gSe_probe v0)))) h4
theorem eX6_leastGap_0 : zd 1 cX6_leastGap 0 1 (.aload_n 1) := ⟨by decide +kernel, rfl⟩
theorem eX6_leastGap_1 : zd 3 cX6_leastGap 1 4 (.getfield 70) := ⟨by decide +kernel, rfl⟩
theorem eX6_leastGap_4 : zd 1 cX6_leastGap 4 5 (.iconst 1) := ⟨by decide +kernel, rfl⟩
theorem eX6_leastGap_5 : zd 1 cX6_leastGap 5 6 (.isub) := ⟨by decide +kernel, rfl⟩
theorem eX6_leastGap_6 : zd 1 cX6_leastGap 6 7 (.aload_n 1) := ⟨by decide +kernel, rfl⟩
theorem eX6_leastGap_7 : zd 3 cX6_leastGap 7 10 (.getfield 73) := ⟨by decide +kernel, rfl⟩
theorem eX6_leastGap_10 : zd 1 cX6_leastGap 10 11 (.isub) := ⟨by decide +kernel, rfl⟩
theorem eX6_leastGap_11 : zd 2 cX6_leastGap 11 13 (.bipush 50) := ⟨by decide +kernel, rfl⟩
theorem eX6_leastGap_13 : zd 1 cX6_leastGap 13 14 (.idiv) := ⟨by decide +kernel, rfl⟩
theorem eX6_leastGap_14 : zd 2 cX6_leastGap 14 16 (.istore 5) := ⟨by decide +kernel, rfl⟩
theorem eX6_leastGap_16 : zd 1 cX6_leastGap 16 17 (.aload_n 0) := ⟨by decide +kernel, rfl⟩
theorem eX6_leastGap_17 : zd 3 cX6_leastGap 17 20 (.getfield 24) := ⟨by decide +kernel, rfl⟩
theorem eX6_leastGap_20 : zd 1 cX6_leastGap 20 21 (.aload_n 1) := ⟨by decide +kernel, rfl⟩
theorem eX6_leastGap_21 : zd 3 cX6_leastGap 21 24 (.invokevirtual 60) := ⟨by decide +kernel, rfl⟩
theorem eX6_leastGap_24 : zd 2 cX6_leastGap 24 26 (.iload 5) := ⟨by decide +kernel, rfl⟩
theorem eX6_leastGap_26 : zd 2 cX6_leastGap 26 28 (.istore 6) := ⟨by decide +kernel, rfl⟩
theorem eX6_leastGap_28 : zd 2 cX6_leastGap 28 30 (.iload 6) := ⟨by decide +kernel, rfl⟩
theorem eX6_leastGap_30 : zdi cX6_leastGap 30 33 94 (.ifCond .lt) := ⟨64, by decide +kernel, rfl, by decide⟩
theorem eX6_leastGap_33 : zd 1 cX6_leastGap 33 34 (.aload_n 0) := ⟨by decide +kernel, rfl⟩
theorem eX6_leastGap_34 : zd 3 cX6_leastGap 34 37 (.getfield 24) := ⟨by decide +kernel, rfl⟩
theorem eX6_leastGap_37 : zd 1 cX6_leastGap 37 38 (.aload_n 1) := ⟨by decide +kernel, rfl⟩
theorem eX6_leastGap_38 : zd 3 cX6_leastGap 38 41 (.getfield 73) := ⟨by decide +kernel, rfl⟩
theorem eX6_leastGap_41 : zd 2 cX6_leastGap 41 43 (.iload 6) := ⟨by decide +kernel, rfl⟩
theorem eX6_leastGap_43 : zd 2 cX6_leastGap 43 45 (.bipush 50) := ⟨by decide +kernel, rfl⟩
theorem eX6_leastGap_45 : zd 1 cX6_leastGap 45 46 (.imul) := ⟨by decide +kernel, rfl⟩
theorem eX6_leastGap_46 : zd 1 cX6_leastGap 46 47 (.iadd) := ⟨by decide +kernel, rfl⟩
theorem eX6_leastGap_47 : zd 3 cX6_leastGap 47 50 (.putfield 73) := ⟨by decide +kernel, rfl⟩
theorem eX6_leastGap_50 : zd 1 cX6_leastGap 50 51 (.aload_n 0) := ⟨by decide +kernel, rfl⟩
theorem eX6_leastGap_51 : zd 3 cX6_leastGap 51 54 (.getfield 18) := ⟨by decide +kernel, rfl⟩
theorem eX6_leastGap_54 : zd 1 cX6_leastGap 54 55 (.aload_n 2) := ⟨by decide +kernel, rfl⟩
theorem eX6_leastGap_55 : zd 3 cX6_leastGap 55 58 (.invokevirtual 28) := ⟨by decide +kernel, rfl⟩
theorem eX6_leastGap_58 : zd 1 cX6_leastGap 58 59 (.aload_n 0) := ⟨by decide +kernel, rfl⟩
theorem eX6_leastGap_59 : zd 1 cX6_leastGap 59 60 (.aload_n 0) := ⟨by decide +kernel, rfl⟩
theorem eX6_leastGap_60 : zd 3 cX6_leastGap 60 63 (.getfield 24) := ⟨by decide +kernel, rfl⟩
theorem eX6_leastGap_63 : zd 1 cX6_leastGap 63 64 (.aload_n 3) := ⟨by decide +kernel, rfl⟩
theorem eX6_leastGap_64 : zd 2 cX6_leastGap 64 66 (.iload 4) := ⟨by decide +kernel, rfl⟩
theorem eX6_leastGap_66 : zd 3 cX6_leastGap 66 69 (.invokevirtual 66) := ⟨by decide +kernel, rfl⟩
theorem eX6_leastGap_69 : zdi cX6_leastGap 69 72 88 (.ifCond .eq) := ⟨19, by decide +kernel, rfl, by decide⟩
theorem eX6_leastGap_72 : zd 1 cX6_leastGap 72 73 (.aload_n 0) := ⟨by decide +kernel, rfl⟩
theorem eX6_leastGap_73 : zd 3 cX6_leastGap 73 76 (.getfield 24) := ⟨by decide +kernel, rfl⟩
theorem eX6_leastGap_76 : zd 3 cX6_leastGap 76 79 (.getfield 70) := ⟨by decide +kernel, rfl⟩
theorem eX6_leastGap_79 : zd 1 cX6_leastGap 79 80 (.aload_n 0) := ⟨by decide +kernel, rfl⟩
theorem eX6_leastGap_80 : zd 3 cX6_leastGap 80 83 (.getfield 24) := ⟨by decide +kernel, rfl⟩
theorem eX6_leastGap_83 : zd 3 cX6_leastGap 83 86 (.getfield 73) := ⟨by decide +kernel, rfl⟩
theorem eX6_leastGap_86 : zd 1 cX6_leastGap 86 87 (.isub) := ⟨by decide +kernel, rfl⟩
theorem eX6_leastGap_87 : zd 1 cX6_leastGap 87 88 (.ireturn) := ⟨by decide +kernel, rfl⟩
theorem eX6_leastGap_88 : zd 3 cX6_leastGap 88 91 (.iinc 6 (-1)) := ⟨by decide +kernel, rfl⟩
theorem eX6_leastGap_91 : zdi cX6_leastGap 91 94 28 (.goto) := ⟨(-63), by decide +kernel, rfl, by decide⟩
theorem eX6_leastGap_94 : zd 1 cX6_leastGap 94 95 (.iconst (-1)) := ⟨by decide +kernel, rfl⟩
theorem eX6_leastGap_95 : zd 1 cX6_leastGap 95 96 (.ireturn) := ⟨by decide +kernel, rfl⟩
theorem FX6_70 : zlF RX6 70 4 1 := ⟨(RX4, TX4, 16), rfl, by decide, q59, zin4⟩
theorem FX6_73 : zlF RX6 73 4 0 := ⟨(RX4, TX4, 16), rfl, by decide, q56, zin4⟩
theorem PX6_73 : zlP RX6 73 4 0 .int := ⟨(RX4, TX4, 16), tyX4, rfl, by decide, q56, zin4, tyX4_ok, nmX4, rfl, by decide +kernel⟩
noncomputable def fB_Se_leastGap_28 (v0 : tSe) (v1 : tQu) (v2 : tSh) (v3 : tPl) (p1 : Int32) (r2 : (Nat → Int32) × (Nat → Int32) × (Nat → Int32)) (ih : (Int32 × (Nat → Int32) × Int64 × (Nat → Int32) × (Nat → Int32) × (Nat → Int32) × (Nat → Int32) × (Nat → Int32)) → Option ((Int32 × (Nat → Int32) × Int64 × (Nat → Int32) × (Nat → Int32) × (Nat → Int32) × (Nat → Int32) × (Nat → Int32) × (Nat → Int32) × (Nat → Int32)) ⊕ (Int32 × (Nat → Int32) × Int64 × (Nat → Int32) × (Nat → Int32) × (Nat → Int32) × (Nat → Int32) × (Nat → Int32)))) (s3 : Int32 × (Nat → Int32) × Int64 × (Nat → Int32) × (Nat → Int32) × (Nat → Int32) × (Nat → Int32) × (Nat → Int32)) : Option ((Int32 × (Nat → Int32) × Int64 × (Nat → Int32) × (Nat → Int32) × (Nat → Int32) × (Nat → Int32) × (Nat → Int32) × (Nat → Int32) × (Nat → Int32)) ⊕ (Int32 × (Nat → Int32) × Int64 × (Nat → Int32) × (Nat → Int32) × (Nat → Int32) × (Nat → Int32) × (Nat → Int32))) := (if (s3.1) < 0 then (some (Sum.inr ((s3.1), (s3.2.1), (s3.2.2.1), (s3.2.2.2.1), (s3.2.2.2.2.1), (s3.2.2.2.2.2.1), (s3.2.2.2.2.2.2.1), (s3.2.2.2.2.2.2.2)))) else (zlet (((gQu_ints v1) 0) + ((s3.1) * 50)) (fun (z9 : Int32) => (Option.bind (f_Sh_copyFrom (sSh_lines (sSh_harm (sSh_ints (gSe_probe v0) (s3.2.1)) (s3.2.2.1)) (sLi_length (sLi_post (sLi_place (sLi_fast (gSh_lines (gSe_probe v0)) (s3.2.2.2.1)) (s3.2.2.2.2.1)) (s3.2.2.2.2.2.1)) (s3.2.2.2.2.2.2.1))) v2) (fun (r10 : (Nat → Int32) × Int64 × (Nat → Int32) × (Nat → Int32) × (Nat → Int32) × (Nat → Int32)) => (Option.bind (f_Se_isSafeByPlan (sSe_other (sSe_probe v0 (sSh_lines (sSh_harm (sSh_ints (gSe_probe v0) (r10.1)) (r10.2.1)) (sLi_length (sLi_post (sLi_place (sLi_fast (gSh_lines (gSe_probe v0)) (r10.2.2.1)) (r10.2.2.2.1)) (r10.2.2.2.2.1)) (r10.2.2.2.2.2)))) (sQu_strengths (sQu_places (sQu_ints (gSe_other v0) (upd (s3.2.2.2.2.2.2.2) 0 z9)) (r2.2.1)) (r2.2.2))) (sQu_strengths (sQu_places (sQu_ints (gSe_other v0) (upd (s3.2.2.2.2.2.2.2) 0 z9)) (r2.2.1)) (r2.2.2)) v3 p1) (fun (r11 : Int32 × (Nat → Int32) × Int64 × (Nat → Int32)) => (if (r11.1) = 0 then (ih (((s3.1) + (-1)), (r11.2.1), (r11.2.2.1), (r11.2.2.2), (r10.2.2.2.1), (r10.2.2.2.2.1), (r10.2.2.2.2.2), (upd (s3.2.2.2.2.2.2.2) 0 z9))) else (some (Sum.inl ((((s3.2.2.2.2.2.2.2) 1) - z9), (r11.2.1), (r11.2.2.1), (r11.2.2.2), (r10.2.2.2.1), (r10.2.2.2.2.1), (r10.2.2.2.2.2), (upd (s3.2.2.2.2.2.2.2) 0 z9), (r2.2.1), (r2.2.2))))))))))))
noncomputable def f_Se_leastGap (v0 : tSe) (v1 : tQu) (v2 : tSh) (v3 : tPl) (p1 : Int32) : Option (Int32 × (Nat → Int32) × Int64 × (Nat → Int32) × (Nat → Int32) × (Nat → Int32) × (Nat → Int32) × (Nat → Int32) × (Nat → Int32) × (Nat → Int32)) := (zlet (((((gQu_ints v1) 1) - 1) - ((gQu_ints v1) 0)) / 50) (fun (z1 : Int32) => (Option.bind (f_Qu_copyFrom (gSe_other v0) v1) (fun (r2 : (Nat → Int32) × (Nat → Int32) × (Nat → Int32)) => (Option.bind (lp (fB_Se_leastGap_28 v0 v1 v2 v3 p1 r2) LF (z1, (gSh_ints (gSe_probe v0)), (gSh_harm (gSe_probe v0)), (gLi_fast (gSh_lines (gSe_probe v0))), (gLi_place (gSh_lines (gSe_probe v0))), (gLi_post (gSh_lines (gSe_probe v0))), (gLi_length (gSh_lines (gSe_probe v0))), (r2.1))) (fun (q4 : (Int32 × (Nat → Int32) × Int64 × (Nat → Int32) × (Nat → Int32) × (Nat → Int32) × (Nat → Int32) × (Nat → Int32) × (Nat → Int32) × (Nat → Int32)) ⊕ (Int32 × (Nat → Int32) × Int64 × (Nat → Int32) × (Nat → Int32) × (Nat → Int32) × (Nat → Int32) × (Nat → Int32))) => Sum.elim (fun r => (some r)) (fun (s3e : Int32 × (Nat → Int32) × Int64 × (Nat → Int32) × (Nat → Int32) × (Nat → Int32) × (Nat → Int32) × (Nat → Int32)) => (some ((-1), (s3e.2.1), (s3e.2.2.1), (s3e.2.2.2.1), (s3e.2.2.2.2.1), (s3e.2.2.2.2.2.1), (s3e.2.2.2.2.2.2.1), (s3e.2.2.2.2.2.2.2), (r2.2.1), (r2.2.2)))) q4))))))
abbrev rm_Se_leastGap : Room := { frames := 5, cells := 0, slots := 0, locals := 129 }
set_option maxHeartbeats 4000000 in
set_option maxRecDepth 100000 in
theorem c_Se_leastGap (l : Launch) (g : zGl) (a0 : Nat → Nat) (o0 : Nat) (v0 : tSe) (a1 : Nat → Nat) (o1 : Nat) (v1 : tQu) (a2 : Nat → Nat) (o2 : Nat) (v2 : tSh) (a3 : Nat → Nat) (o3 : Nat) (v3 : tPl) (p1 : Int32) (out : Int32 × (Nat → Int32) × Int64 × (Nat → Int32) × (Nat → Int32) × (Nat → Int32) × (Nat → Int32) × (Nat → Int32) × (Nat → Int32) × (Nat → Int32)) (hf : f_Se_leastGap v0 v1 v2 v3 p1 = some out) : zMi l yX6_leastGap cX6_leastGap 7 rm_Se_leastGap g [.ref (a0 o0), .ref (a1 o1), .ref (a2 o2), .ref (a3 o3), .int p1] (w_Se g a0 o0 v0 ++ w_Qu g a1 o1 v1 ++ w_Sh g a2 o2 v2 ++ w_Pl g a3 o3 v3) (out.1) (w_Se g a0 o0 (sSe_other (sSe_probe v0 (sSh_lines (sSh_harm (sSh_ints (gSe_probe v0) (out.2.1)) (out.2.2.1)) (sLi_length (sLi_post (sLi_place (sLi_fast (gSh_lines (gSe_probe v0)) (out.2.2.2.1)) (out.2.2.2.2.1)) (out.2.2.2.2.2.1)) (out.2.2.2.2.2.2.1)))) (sQu_strengths (sQu_places (sQu_ints (gSe_other v0) (out.2.2.2.2.2.2.2.1)) (out.2.2.2.2.2.2.2.2.1)) (out.2.2.2.2.2.2.2.2.2))) ++ w_Qu g a1 o1 v1 ++ w_Sh g a2 o2 v2 ++ w_Pl g a3 o3 v3) := by
  refine zMi_of (lv := [(0, .ref (a0 o0)), (1, .ref (a1 o1)), (2, .ref (a2 o2)), (3, .ref (a3 o3)), (4, .int p1)]) (by decide) (Nat.le_of_ble_eq_true rfl) rfl (fun x hl hg C hret => ?_)
  subst hl; subst hg
  rw [f_Se_leastGap] at hf
  refine r_aload_n C eX6_leastGap_0 1 rfl rfl ?_
  refine r_get (v := .int ((gQu_ints v1) 1)) C eX6_leastGap_1 FX6_70 16 rfl rfl ?_
  refine r_iconst C (v := 1) eX6_leastGap_4 (by decide) ?_
  refine r_isub C eX6_leastGap_5 ?_
  refine r_aload_n C eX6_leastGap_6 1 rfl rfl ?_
  refine r_get (v := .int ((gQu_ints v1) 0)) C eX6_leastGap_7 FX6_73 16 rfl rfl ?_
  refine r_isub C eX6_leastGap_10 ?_
  refine r_bipush C (v := 50) eX6_leastGap_11 (by decide) ?_
  refine r_idiv C eX6_leastGap_13 (by decide) ?_
  obtain ⟨z1, hz1, hf⟩ := zlet_of hf
  refine r_nami hz1 ?_
  refine r_istore C [(5, .int z1), (0, .ref (a0 o0)), (1, .ref (a1 o1)), (2, .ref (a2 o2)), (3, .ref (a3 o3)), (4, .int p1)] eX6_leastGap_14 (by decide) rfl ?_
  refine r_aload_n C eX6_leastGap_16 1 rfl rfl ?_
  refine r_get (v := .ref (a0 (o0 + 13))) C eX6_leastGap_17 FX6_24 0 rfl rfl ?_
  refine r_aload_n C eX6_leastGap_20 2 rfl rfl ?_
  obtain ⟨r2, hr2, hf⟩ := zbind hf
  refine r_V_v (ws' := w_Se (z_g x) a0 o0 (sSe_other v0 (sQu_strengths (sQu_places (sQu_ints (gSe_other v0) (r2.1)) (r2.2.1)) (r2.2.2))) ++ w_Qu (z_g x) a1 o1 v1 ++ w_Sh (z_g x) a2 o2 v2 ++ w_Pl (z_g x) a3 o3 v3) C (c_Qu_copyFrom (z_l x) (z_g x) a0 (o0 + 13) (gSe_other v0) a1 o1 v1  r2 hr2) eX6_leastGap_21 MX6_60 ⟨0, 4, _, _, rfl, rfl, rfl⟩ [13, 14, 15, 16, 17, 18] rfl rfl rfl rfl rfl rfl rfl rfl rfl ?_
  refine r_iload C eX6_leastGap_24 0 rfl ?_
  refine r_istore C [(6, .int z1), (5, .int z1), (0, .ref (a0 o0)), (1, .ref (a1 o1)), (2, .ref (a2 o2)), (3, .ref (a3 o3)), (4, .int p1)] eX6_leastGap_26 (by decide) rfl ?_
  obtain ⟨q4, h5, hf⟩ := zbind hf
  have J6 : ∀ s3e : Int32 × (Nat → Int32) × Int64 × (Nat → Int32) × (Nat → Int32) × (Nat → Int32) × (Nat → Int32) × (Nat → Int32), q4 = Sum.inr s3e → vV x 7 0 0 (w_Se (z_g x) a0 o0 (sSe_other (sSe_probe v0 (sSh_lines (sSh_harm (sSh_ints (gSe_probe v0) (s3e.2.1)) (s3e.2.2.1)) (sLi_length (sLi_post (sLi_place (sLi_fast (gSh_lines (gSe_probe v0)) (s3e.2.2.2.1)) (s3e.2.2.2.2.1)) (s3e.2.2.2.2.2.1)) (s3e.2.2.2.2.2.2.1)))) (sQu_strengths (sQu_places (sQu_ints (gSe_other v0) (s3e.2.2.2.2.2.2.2)) (r2.2.1)) (r2.2.2))) ++ w_Qu (z_g x) a1 o1 v1 ++ w_Sh (z_g x) a2 o2 v2 ++ w_Pl (z_g x) a3 o3 v3) 94 [] [] := by
    intro s3e hs
    subst hs
    rw [Sum.elim_inr] at hf
    refine r_iconst C (v := (-1)) eX6_leastGap_94 (by decide) ?_
    obtain rfl := Option.some.inj (show some (((-1), (s3e.2.1), (s3e.2.2.1), (s3e.2.2.2.1), (s3e.2.2.2.2.1), (s3e.2.2.2.2.2.1), (s3e.2.2.2.2.2.2.1), (s3e.2.2.2.2.2.2.2), (r2.2.1), (r2.2.2)) : Int32 × (Nat → Int32) × Int64 × (Nat → Int32) × (Nat → Int32) × (Nat → Int32) × (Nat → Int32) × (Nat → Int32) × (Nat → Int32) × (Nat → Int32)) = some _ from hf)
    exact hret _ _ _ eX6_leastGap_95
  have L7 : ∀ (nL7 : Nat) (s3 : Int32 × (Nat → Int32) × Int64 × (Nat → Int32) × (Nat → Int32) × (Nat → Int32) × (Nat → Int32) × (Nat → Int32)), lp (fB_Se_leastGap_28 v0 v1 v2 v3 p1 r2) nL7 s3 = some q4 → vV x 7 0 0 (w_Se (z_g x) a0 o0 (sSe_other (sSe_probe v0 (sSh_lines (sSh_harm (sSh_ints (gSe_probe v0) (s3.2.1)) (s3.2.2.1)) (sLi_length (sLi_post (sLi_place (sLi_fast (gSh_lines (gSe_probe v0)) (s3.2.2.2.1)) (s3.2.2.2.2.1)) (s3.2.2.2.2.2.1)) (s3.2.2.2.2.2.2.1)))) (sQu_strengths (sQu_places (sQu_ints (gSe_other v0) (s3.2.2.2.2.2.2.2)) (r2.2.1)) (r2.2.2))) ++ w_Qu (z_g x) a1 o1 v1 ++ w_Sh (z_g x) a2 o2 v2 ++ w_Pl (z_g x) a3 o3 v3) 28 [(0, .ref (a0 o0)), (1, .ref (a1 o1)), (2, .ref (a2 o2)), (3, .ref (a3 o3)), (4, .int p1), (6, .int (s3.1))] [] := by
    intro nL7
    induction nL7 with
    | zero => intro s3 hq; cases hq
    | succ nL7 ihL7 =>
      intro s3 hbL7
      rw [lp_succ, fB_Se_leastGap_28] at hbL7
      refine r_iload C eX6_leastGap_28 5 rfl ?_
      refine r_if_lt C eX6_leastGap_30 (fun c8 => ?_) (fun c8 => ?_)
      · rw [if_pos c8] at hbL7
        obtain rfl := Option.some.inj hbL7
        refine r_sub (lv' := []) [] rfl ?_
        exact J6 _ rfl
      · rw [if_neg c8] at hbL7
        refine r_aload_n C eX6_leastGap_33 0 rfl rfl ?_
        refine r_get (v := .ref (a0 (o0 + 13))) C eX6_leastGap_34 FX6_24 0 rfl rfl ?_
        refine r_aload_n C eX6_leastGap_37 1 rfl rfl ?_
        refine r_get (v := .int ((gQu_ints v1) 0)) C eX6_leastGap_38 FX6_73 16 rfl rfl ?_
        refine r_iload C eX6_leastGap_41 5 rfl ?_
        refine r_bipush C (v := 50) eX6_leastGap_43 (by decide) ?_
        refine r_imul C eX6_leastGap_45 ?_
        refine r_iadd C eX6_leastGap_46 ?_
        obtain ⟨z9, hz9, hbL7⟩ := zlet_of hbL7
        refine r_nami hz9 ?_
        refine r_put (ws' := w_Se (z_g x) a0 o0 (sSe_other (sSe_probe v0 (sSh_lines (sSh_harm (sSh_ints (gSe_probe v0) (s3.2.1)) (s3.2.2.1)) (sLi_length (sLi_post (sLi_place (sLi_fast (gSh_lines (gSe_probe v0)) (s3.2.2.2.1)) (s3.2.2.2.2.1)) (s3.2.2.2.2.2.1)) (s3.2.2.2.2.2.2.1)))) (sQu_strengths (sQu_places (sQu_ints (gSe_other v0) (upd (s3.2.2.2.2.2.2.2) 0 z9)) (r2.2.1)) (r2.2.2))) ++ w_Qu (z_g x) a1 o1 v1 ++ w_Sh (z_g x) a2 o2 v2 ++ w_Pl (z_g x) a3 o3 v3) C eX6_leastGap_47 PX6_73 13 rfl rfl rfl (Nat.le_of_ble_eq_true rfl) rfl ?_
        refine r_aload_n C eX6_leastGap_50 0 rfl rfl ?_
        refine r_get (v := .ref (a0 (o0 + 7))) C eX6_leastGap_51 FX6_18 0 rfl rfl ?_
        refine r_aload_n C eX6_leastGap_54 2 rfl rfl ?_
        obtain ⟨r10, hr10, hbL7⟩ := zbind hbL7
        refine r_V_v (ws' := w_Se (z_g x) a0 o0 (sSe_other (sSe_probe v0 (sSh_lines (sSh_harm (sSh_ints (gSe_probe v0) (r10.1)) (r10.2.1)) (sLi_length (sLi_post (sLi_place (sLi_fast (gSh_lines (gSe_probe v0)) (r10.2.2.1)) (r10.2.2.2.1)) (r10.2.2.2.2.1)) (r10.2.2.2.2.2)))) (sQu_strengths (sQu_places (sQu_ints (gSe_other v0) (upd (s3.2.2.2.2.2.2.2) 0 z9)) (r2.2.1)) (r2.2.2))) ++ w_Qu (z_g x) a1 o1 v1 ++ w_Sh (z_g x) a2 o2 v2 ++ w_Pl (z_g x) a3 o3 v3) C (c_Sh_copyFrom (z_l x) (z_g x) a0 (o0 + 7) (sSh_lines (sSh_harm (sSh_ints (gSe_probe v0) (s3.2.1)) (s3.2.2.1)) (sLi_length (sLi_post (sLi_place (sLi_fast (gSh_lines (gSe_probe v0)) (s3.2.2.2.1)) (s3.2.2.2.2.1)) (s3.2.2.2.2.2.1)) (s3.2.2.2.2.2.2.1))) a2 o2 v2  r10 hr10) eX6_leastGap_55 MX6_28 ⟨0, 7, _, _, rfl, rfl, rfl⟩ [7, 8, 9, 10, 11, 12, 19, 20, 21, 22, 23, 24] rfl rfl rfl rfl rfl rfl rfl rfl rfl ?_
        refine r_aload_n C eX6_leastGap_58 0 rfl rfl ?_
        refine r_aload_n C eX6_leastGap_59 0 rfl rfl ?_
        refine r_get (v := .ref (a0 (o0 + 13))) C eX6_leastGap_60 FX6_24 0 rfl rfl ?_
        refine r_aload_n C eX6_leastGap_63 3 rfl rfl ?_
        refine r_iload C eX6_leastGap_64 4 rfl ?_
        obtain ⟨r11, hr11, hbL7⟩ := zbind hbL7
        refine r_V_z (ws' := w_Se (z_g x) a0 o0 (sSe_other (sSe_probe v0 (sSh_lines (sSh_harm (sSh_ints (gSe_probe v0) (r11.2.1)) (r11.2.2.1)) (sLi_length (sLi_post (sLi_place (sLi_fast (gSh_lines (gSe_probe v0)) (r11.2.2.2)) (r10.2.2.2.1)) (r10.2.2.2.2.1)) (r10.2.2.2.2.2)))) (sQu_strengths (sQu_places (sQu_ints (gSe_other v0) (upd (s3.2.2.2.2.2.2.2) 0 z9)) (r2.2.1)) (r2.2.2))) ++ w_Qu (z_g x) a1 o1 v1 ++ w_Sh (z_g x) a2 o2 v2 ++ w_Pl (z_g x) a3 o3 v3) C (c_Se_isSafeByPlan (z_l x) (z_g x) a0 o0 (sSe_other (sSe_probe v0 (sSh_lines (sSh_harm (sSh_ints (gSe_probe v0) (r10.1)) (r10.2.1)) (sLi_length (sLi_post (sLi_place (sLi_fast (gSh_lines (gSe_probe v0)) (r10.2.2.1)) (r10.2.2.2.1)) (r10.2.2.2.2.1)) (r10.2.2.2.2.2)))) (sQu_strengths (sQu_places (sQu_ints (gSe_other v0) (upd (s3.2.2.2.2.2.2.2) 0 z9)) (r2.2.1)) (r2.2.2))) a0 (o0 + 13) (sQu_strengths (sQu_places (sQu_ints (gSe_other v0) (upd (s3.2.2.2.2.2.2.2) 0 z9)) (r2.2.1)) (r2.2.2)) a3 o3 v3 p1 r11 hr11) eX6_leastGap_66 MX6_66 ⟨0, 6, _, _, rfl, rfl, rfl⟩ [0, 1, 2, 3, 4, 5, 6, 7, 8, 9, 10, 11, 12, 13, 14, 15, 13, 14, 15, 25, 26, 27, 28] rfl rfl rfl rfl rfl rfl rfl rfl rfl (fun zb12 => ?_)
        refine r_if_eq C eX6_leastGap_69 (fun c13 => ?_) (fun c13 => ?_)
        · rw [if_pos c13] at hbL7
          refine r_iinc C (v := ((s3.1) + (-1))) [(6, .int ((s3.1) + (-1))), (0, .ref (a0 o0)), (1, .ref (a1 o1)), (2, .ref (a2 o2)), (3, .ref (a3 o3)), (4, .int p1)] eX6_leastGap_88 5 rfl rfl (by decide) rfl ?_
          refine r_goto C eX6_leastGap_91 ?_
          refine r_sub (lv' := [(0, .ref (a0 o0)), (1, .ref (a1 o1)), (2, .ref (a2 o2)), (3, .ref (a3 o3)), (4, .int p1), (6, .int ((s3.1) + (-1)))]) [1, 2, 3, 4, 5, 0] rfl ?_
          exact ihL7 (((s3.1) + (-1)), (r11.2.1), (r11.2.2.1), (r11.2.2.2), (r10.2.2.2.1), (r10.2.2.2.2.1), (r10.2.2.2.2.2), (upd (s3.2.2.2.2.2.2.2) 0 z9)) hbL7
        · rw [if_neg c13] at hbL7
          refine r_aload_n C eX6_leastGap_72 0 rfl rfl ?_
          refine r_get (v := .ref (a0 (o0 + 13))) C eX6_leastGap_73 FX6_24 0 rfl rfl ?_
          refine r_get (v := .int ((s3.2.2.2.2.2.2.2) 1)) C eX6_leastGap_76 FX6_70 13 rfl rfl ?_
          refine r_aload_n C eX6_leastGap_79 0 rfl rfl ?_
          refine r_get (v := .ref (a0 (o0 + 13))) C eX6_leastGap_80 FX6_24 0 rfl rfl ?_
          refine r_get (v := .int z9) C eX6_leastGap_83 FX6_73 13 rfl rfl ?_
          refine r_isub C eX6_leastGap_86 ?_
          obtain rfl := Option.some.inj (show some (Sum.inl (((((s3.2.2.2.2.2.2.2) 1) - z9), (r11.2.1), (r11.2.2.1), (r11.2.2.2), (r10.2.2.2.1), (r10.2.2.2.2.1), (r10.2.2.2.2.2), (upd (s3.2.2.2.2.2.2.2) 0 z9), (r2.2.1), (r2.2.2)) : Int32 × (Nat → Int32) × Int64 × (Nat → Int32) × (Nat → Int32) × (Nat → Int32) × (Nat → Int32) × (Nat → Int32) × (Nat → Int32) × (Nat → Int32))) = some _ from hbL7)
          obtain rfl := Option.some.inj (show some (((((s3.2.2.2.2.2.2.2) 1) - z9), (r11.2.1), (r11.2.2.1), (r11.2.2.2), (r10.2.2.2.1), (r10.2.2.2.2.1), (r10.2.2.2.2.2), (upd (s3.2.2.2.2.2.2.2) 0 z9), (r2.2.1), (r2.2.2)) : Int32 × (Nat → Int32) × Int64 × (Nat → Int32) × (Nat → Int32) × (Nat → Int32) × (Nat → Int32) × (Nat → Int32) × (Nat → Int32) × (Nat → Int32)) = some _ from hf)
          exact hret _ _ _ eX6_leastGap_87
  refine r_sub (lv' := [(0, .ref (a0 o0)), (1, .ref (a1 o1)), (2, .ref (a2 o2)), (3, .ref (a3 o3)), (4, .int p1), (6, .int z1)]) [2, 3, 4, 5, 6, 0] rfl ?_
  exact L7 LF (z1, (gSh_ints (gSe_probe v0)), (gSh_harm (gSe_probe v0)), (gLi_fast (gSh_lines (gSe_probe v0))), (gLi_place (gSh_lines (gSe_probe v0))), (gLi_post (gSh_lines (gSe_probe v0))), (gLi_length (gSh_lines (gSe_probe v0))), (r2.1)) h5
theorem eX6_leastTug_0 : zd 1 cX6_leastTug 0 1 (.iconst 0) := ⟨by decide +kernel, rfl⟩
theorem eX6_leastTug_1 : zd 2 cX6_leastTug 1 3 (.istore 5) := ⟨by decide +kernel, rfl⟩
theorem eX6_leastTug_3 : zd 2 cX6_leastTug 3 5 (.iload 5) := ⟨by decide +kernel, rfl⟩
theorem eX6_leastTug_5 : zd 2 cX6_leastTug 5 7 (.bipush 99) := ⟨by decide +kernel, rfl⟩
theorem eX6_leastTug_7 : zdi cX6_leastTug 7 10 47 (.if_icmp .gt) := ⟨40, by decide +kernel, rfl, by decide⟩
theorem eX6_leastTug_10 : zd 1 cX6_leastTug 10 11 (.aload_n 0) := ⟨by decide +kernel, rfl⟩
theorem eX6_leastTug_11 : zd 3 cX6_leastTug 11 14 (.getfield 18) := ⟨by decide +kernel, rfl⟩
theorem eX6_leastTug_14 : zd 1 cX6_leastTug 14 15 (.aload_n 2) := ⟨by decide +kernel, rfl⟩
theorem eX6_leastTug_15 : zd 3 cX6_leastTug 15 18 (.invokevirtual 28) := ⟨by decide +kernel, rfl⟩
theorem eX6_leastTug_18 : zd 1 cX6_leastTug 18 19 (.aload_n 0) := ⟨by decide +kernel, rfl⟩
theorem eX6_leastTug_19 : zd 3 cX6_leastTug 19 22 (.getfield 18) := ⟨by decide +kernel, rfl⟩
theorem eX6_leastTug_22 : zd 2 cX6_leastTug 22 24 (.iload 5) := ⟨by decide +kernel, rfl⟩
theorem eX6_leastTug_24 : zd 3 cX6_leastTug 24 27 (.putfield 76) := ⟨by decide +kernel, rfl⟩
theorem eX6_leastTug_27 : zd 1 cX6_leastTug 27 28 (.aload_n 0) := ⟨by decide +kernel, rfl⟩
theorem eX6_leastTug_28 : zd 1 cX6_leastTug 28 29 (.aload_n 1) := ⟨by decide +kernel, rfl⟩
theorem eX6_leastTug_29 : zd 1 cX6_leastTug 29 30 (.aload_n 3) := ⟨by decide +kernel, rfl⟩
theorem eX6_leastTug_30 : zd 2 cX6_leastTug 30 32 (.iload 4) := ⟨by decide +kernel, rfl⟩
theorem eX6_leastTug_32 : zd 3 cX6_leastTug 32 35 (.invokevirtual 66) := ⟨by decide +kernel, rfl⟩
theorem eX6_leastTug_35 : zdi cX6_leastTug 35 38 41 (.ifCond .eq) := ⟨6, by decide +kernel, rfl, by decide⟩
theorem eX6_leastTug_38 : zd 2 cX6_leastTug 38 40 (.iload 5) := ⟨by decide +kernel, rfl⟩
theorem eX6_leastTug_40 : zd 1 cX6_leastTug 40 41 (.ireturn) := ⟨by decide +kernel, rfl⟩
theorem eX6_leastTug_41 : zd 3 cX6_leastTug 41 44 (.iinc 5 1) := ⟨by decide +kernel, rfl⟩
theorem eX6_leastTug_44 : zdi cX6_leastTug 44 47 3 (.goto) := ⟨(-41), by decide +kernel, rfl, by decide⟩
theorem eX6_leastTug_47 : zd 1 cX6_leastTug 47 48 (.iconst (-1)) := ⟨by decide +kernel, rfl⟩
theorem eX6_leastTug_48 : zd 1 cX6_leastTug 48 49 (.ireturn) := ⟨by decide +kernel, rfl⟩
theorem PX6_76 : zlP RX6 76 7 8 .int := ⟨(RX7, TX7, 18), tyX7, rfl, by decide, q246, zin7, tyX7_ok, nmX7, rfl, by decide +kernel⟩
noncomputable def fB_Se_leastTug_3 (v0 : tSe) (v1 : tQu) (v2 : tSh) (v3 : tPl) (p1 : Int32) (ih : (Int32 × (Nat → Int32) × Int64 × (Nat → Int32) × (Nat → Int32) × (Nat → Int32) × (Nat → Int32)) → Option ((Int32 × (Nat → Int32) × Int64 × (Nat → Int32) × (Nat → Int32) × (Nat → Int32) × (Nat → Int32)) ⊕ (Int32 × (Nat → Int32) × Int64 × (Nat → Int32) × (Nat → Int32) × (Nat → Int32) × (Nat → Int32)))) (s1 : Int32 × (Nat → Int32) × Int64 × (Nat → Int32) × (Nat → Int32) × (Nat → Int32) × (Nat → Int32)) : Option ((Int32 × (Nat → Int32) × Int64 × (Nat → Int32) × (Nat → Int32) × (Nat → Int32) × (Nat → Int32)) ⊕ (Int32 × (Nat → Int32) × Int64 × (Nat → Int32) × (Nat → Int32) × (Nat → Int32) × (Nat → Int32))) := (if 99 < (s1.1) then (some (Sum.inr ((s1.1), (s1.2.1), (s1.2.2.1), (s1.2.2.2.1), (s1.2.2.2.2.1), (s1.2.2.2.2.2.1), (s1.2.2.2.2.2.2)))) else (Option.bind (f_Sh_copyFrom (sSh_lines (sSh_harm (sSh_ints (gSe_probe v0) (s1.2.1)) (s1.2.2.1)) (sLi_length (sLi_post (sLi_place (sLi_fast (gSh_lines (gSe_probe v0)) (s1.2.2.2.1)) (s1.2.2.2.2.1)) (s1.2.2.2.2.2.1)) (s1.2.2.2.2.2.2))) v2) (fun (r7 : (Nat → Int32) × Int64 × (Nat → Int32) × (Nat → Int32) × (Nat → Int32) × (Nat → Int32)) => (Option.bind (f_Se_isSafeByPlan (sSe_probe v0 (sSh_lines (sSh_harm (sSh_ints (gSe_probe v0) (upd (r7.1) 8 (s1.1))) (r7.2.1)) (sLi_length (sLi_post (sLi_place (sLi_fast (gSh_lines (gSe_probe v0)) (r7.2.2.1)) (r7.2.2.2.1)) (r7.2.2.2.2.1)) (r7.2.2.2.2.2)))) v1 v3 p1) (fun (r8 : Int32 × (Nat → Int32) × Int64 × (Nat → Int32)) => (if (r8.1) = 0 then (ih (((s1.1) + 1), (r8.2.1), (r8.2.2.1), (r8.2.2.2), (r7.2.2.2.1), (r7.2.2.2.2.1), (r7.2.2.2.2.2))) else (some (Sum.inl ((s1.1), (r8.2.1), (r8.2.2.1), (r8.2.2.2), (r7.2.2.2.1), (r7.2.2.2.2.1), (r7.2.2.2.2.2))))))))))
noncomputable def f_Se_leastTug (v0 : tSe) (v1 : tQu) (v2 : tSh) (v3 : tPl) (p1 : Int32) : Option (Int32 × (Nat → Int32) × Int64 × (Nat → Int32) × (Nat → Int32) × (Nat → Int32) × (Nat → Int32)) := (Option.bind (lp (fB_Se_leastTug_3 v0 v1 v2 v3 p1) LF (0, (gSh_ints (gSe_probe v0)), (gSh_harm (gSe_probe v0)), (gLi_fast (gSh_lines (gSe_probe v0))), (gLi_place (gSh_lines (gSe_probe v0))), (gLi_post (gSh_lines (gSe_probe v0))), (gLi_length (gSh_lines (gSe_probe v0))))) (fun (q2 : (Int32 × (Nat → Int32) × Int64 × (Nat → Int32) × (Nat → Int32) × (Nat → Int32) × (Nat → Int32)) ⊕ (Int32 × (Nat → Int32) × Int64 × (Nat → Int32) × (Nat → Int32) × (Nat → Int32) × (Nat → Int32))) => Sum.elim (fun r => (some r)) (fun (s1e : Int32 × (Nat → Int32) × Int64 × (Nat → Int32) × (Nat → Int32) × (Nat → Int32) × (Nat → Int32)) => (some ((-1), (s1e.2.1), (s1e.2.2.1), (s1e.2.2.2.1), (s1e.2.2.2.2.1), (s1e.2.2.2.2.2.1), (s1e.2.2.2.2.2.2)))) q2))
abbrev rm_Se_leastTug : Room := { frames := 5, cells := 0, slots := 0, locals := 129 }
set_option maxHeartbeats 4000000 in
set_option maxRecDepth 100000 in
theorem c_Se_leastTug (l : Launch) (g : zGl) (a0 : Nat → Nat) (o0 : Nat) (v0 : tSe) (a1 : Nat → Nat) (o1 : Nat) (v1 : tQu) (a2 : Nat → Nat) (o2 : Nat) (v2 : tSh) (a3 : Nat → Nat) (o3 : Nat) (v3 : tPl) (p1 : Int32) (out : Int32 × (Nat → Int32) × Int64 × (Nat → Int32) × (Nat → Int32) × (Nat → Int32) × (Nat → Int32)) (hf : f_Se_leastTug v0 v1 v2 v3 p1 = some out) : zMi l yX6_leastTug cX6_leastTug 6 rm_Se_leastTug g [.ref (a0 o0), .ref (a1 o1), .ref (a2 o2), .ref (a3 o3), .int p1] (w_Se g a0 o0 v0 ++ w_Qu g a1 o1 v1 ++ w_Sh g a2 o2 v2 ++ w_Pl g a3 o3 v3) (out.1) (w_Se g a0 o0 (sSe_probe v0 (sSh_lines (sSh_harm (sSh_ints (gSe_probe v0) (out.2.1)) (out.2.2.1)) (sLi_length (sLi_post (sLi_place (sLi_fast (gSh_lines (gSe_probe v0)) (out.2.2.2.1)) (out.2.2.2.2.1)) (out.2.2.2.2.2.1)) (out.2.2.2.2.2.2)))) ++ w_Qu g a1 o1 v1 ++ w_Sh g a2 o2 v2 ++ w_Pl g a3 o3 v3) := by
  refine zMi_of (lv := [(0, .ref (a0 o0)), (1, .ref (a1 o1)), (2, .ref (a2 o2)), (3, .ref (a3 o3)), (4, .int p1)]) (by decide) (Nat.le_of_ble_eq_true rfl) rfl (fun x hl hg C hret => ?_)
  subst hl; subst hg
  rw [f_Se_leastTug] at hf
  refine r_iconst C (v := 0) eX6_leastTug_0 (by decide) ?_
  refine r_istore C [(5, .int 0), (0, .ref (a0 o0)), (1, .ref (a1 o1)), (2, .ref (a2 o2)), (3, .ref (a3 o3)), (4, .int p1)] eX6_leastTug_1 (by decide) rfl ?_
  obtain ⟨q2, h3, hf⟩ := zbind hf
  have J4 : ∀ s1e : Int32 × (Nat → Int32) × Int64 × (Nat → Int32) × (Nat → Int32) × (Nat → Int32) × (Nat → Int32), q2 = Sum.inr s1e → vV x 6 0 0 (w_Se (z_g x) a0 o0 (sSe_probe v0 (sSh_lines (sSh_harm (sSh_ints (gSe_probe v0) (s1e.2.1)) (s1e.2.2.1)) (sLi_length (sLi_post (sLi_place (sLi_fast (gSh_lines (gSe_probe v0)) (s1e.2.2.2.1)) (s1e.2.2.2.2.1)) (s1e.2.2.2.2.2.1)) (s1e.2.2.2.2.2.2)))) ++ w_Qu (z_g x) a1 o1 v1 ++ w_Sh (z_g x) a2 o2 v2 ++ w_Pl (z_g x) a3 o3 v3) 47 [] [] := by
    intro s1e hs
    subst hs
    rw [Sum.elim_inr] at hf
    refine r_iconst C (v := (-1)) eX6_leastTug_47 (by decide) ?_
    obtain rfl := Option.some.inj (show some (((-1), (s1e.2.1), (s1e.2.2.1), (s1e.2.2.2.1), (s1e.2.2.2.2.1), (s1e.2.2.2.2.2.1), (s1e.2.2.2.2.2.2)) : Int32 × (Nat → Int32) × Int64 × (Nat → Int32) × (Nat → Int32) × (Nat → Int32) × (Nat → Int32)) = some _ from hf)
    exact hret _ _ _ eX6_leastTug_48
  have L5 : ∀ (nL5 : Nat) (s1 : Int32 × (Nat → Int32) × Int64 × (Nat → Int32) × (Nat → Int32) × (Nat → Int32) × (Nat → Int32)), lp (fB_Se_leastTug_3 v0 v1 v2 v3 p1) nL5 s1 = some q2 → vV x 6 0 0 (w_Se (z_g x) a0 o0 (sSe_probe v0 (sSh_lines (sSh_harm (sSh_ints (gSe_probe v0) (s1.2.1)) (s1.2.2.1)) (sLi_length (sLi_post (sLi_place (sLi_fast (gSh_lines (gSe_probe v0)) (s1.2.2.2.1)) (s1.2.2.2.2.1)) (s1.2.2.2.2.2.1)) (s1.2.2.2.2.2.2)))) ++ w_Qu (z_g x) a1 o1 v1 ++ w_Sh (z_g x) a2 o2 v2 ++ w_Pl (z_g x) a3 o3 v3) 3 [(0, .ref (a0 o0)), (1, .ref (a1 o1)), (2, .ref (a2 o2)), (3, .ref (a3 o3)), (4, .int p1), (5, .int (s1.1))] [] := by
    intro nL5
    induction nL5 with
    | zero => intro s1 hq; cases hq
    | succ nL5 ihL5 =>
      intro s1 hbL5
      rw [lp_succ, fB_Se_leastTug_3] at hbL5
      refine r_iload C eX6_leastTug_3 5 rfl ?_
      refine r_bipush C (v := 99) eX6_leastTug_5 (by decide) ?_
      refine r_icmp_gt C eX6_leastTug_7 (fun c6 => ?_) (fun c6 => ?_)
      · rw [if_pos c6] at hbL5
        obtain rfl := Option.some.inj hbL5
        refine r_sub (lv' := []) [] rfl ?_
        exact J4 _ rfl
      · rw [if_neg c6] at hbL5
        refine r_aload_n C eX6_leastTug_10 0 rfl rfl ?_
        refine r_get (v := .ref (a0 (o0 + 7))) C eX6_leastTug_11 FX6_18 0 rfl rfl ?_
        refine r_aload_n C eX6_leastTug_14 2 rfl rfl ?_
        obtain ⟨r7, hr7, hbL5⟩ := zbind hbL5
        refine r_V_v (ws' := w_Se (z_g x) a0 o0 (sSe_probe v0 (sSh_lines (sSh_harm (sSh_ints (gSe_probe v0) (r7.1)) (r7.2.1)) (sLi_length (sLi_post (sLi_place (sLi_fast (gSh_lines (gSe_probe v0)) (r7.2.2.1)) (r7.2.2.2.1)) (r7.2.2.2.2.1)) (r7.2.2.2.2.2)))) ++ w_Qu (z_g x) a1 o1 v1 ++ w_Sh (z_g x) a2 o2 v2 ++ w_Pl (z_g x) a3 o3 v3) C (c_Sh_copyFrom (z_l x) (z_g x) a0 (o0 + 7) (sSh_lines (sSh_harm (sSh_ints (gSe_probe v0) (s1.2.1)) (s1.2.2.1)) (sLi_length (sLi_post (sLi_place (sLi_fast (gSh_lines (gSe_probe v0)) (s1.2.2.2.1)) (s1.2.2.2.2.1)) (s1.2.2.2.2.2.1)) (s1.2.2.2.2.2.2))) a2 o2 v2  r7 hr7) eX6_leastTug_15 MX6_28 ⟨0, 7, _, _, rfl, rfl, rfl⟩ [7, 8, 9, 10, 11, 12, 19, 20, 21, 22, 23, 24] rfl rfl rfl rfl rfl rfl rfl rfl rfl ?_
        refine r_aload_n C eX6_leastTug_18 0 rfl rfl ?_
        refine r_get (v := .ref (a0 (o0 + 7))) C eX6_leastTug_19 FX6_18 0 rfl rfl ?_
        refine r_iload C eX6_leastTug_22 5 rfl ?_
        refine r_put (ws' := w_Se (z_g x) a0 o0 (sSe_probe v0 (sSh_lines (sSh_harm (sSh_ints (gSe_probe v0) (upd (r7.1) 8 (s1.1))) (r7.2.1)) (sLi_length (sLi_post (sLi_place (sLi_fast (gSh_lines (gSe_probe v0)) (r7.2.2.1)) (r7.2.2.2.1)) (r7.2.2.2.2.1)) (r7.2.2.2.2.2)))) ++ w_Qu (z_g x) a1 o1 v1 ++ w_Sh (z_g x) a2 o2 v2 ++ w_Pl (z_g x) a3 o3 v3) C eX6_leastTug_24 PX6_76 7 rfl rfl rfl (Nat.le_of_ble_eq_true rfl) rfl ?_
        refine r_aload_n C eX6_leastTug_27 0 rfl rfl ?_
        refine r_aload_n C eX6_leastTug_28 1 rfl rfl ?_
        refine r_aload_n C eX6_leastTug_29 3 rfl rfl ?_
        refine r_iload C eX6_leastTug_30 4 rfl ?_
        obtain ⟨r8, hr8, hbL5⟩ := zbind hbL5
        refine r_V_z (ws' := w_Se (z_g x) a0 o0 (sSe_probe v0 (sSh_lines (sSh_harm (sSh_ints (gSe_probe v0) (r8.2.1)) (r8.2.2.1)) (sLi_length (sLi_post (sLi_place (sLi_fast (gSh_lines (gSe_probe v0)) (r8.2.2.2)) (r7.2.2.2.1)) (r7.2.2.2.2.1)) (r7.2.2.2.2.2)))) ++ w_Qu (z_g x) a1 o1 v1 ++ w_Sh (z_g x) a2 o2 v2 ++ w_Pl (z_g x) a3 o3 v3) C (c_Se_isSafeByPlan (z_l x) (z_g x) a0 o0 (sSe_probe v0 (sSh_lines (sSh_harm (sSh_ints (gSe_probe v0) (upd (r7.1) 8 (s1.1))) (r7.2.1)) (sLi_length (sLi_post (sLi_place (sLi_fast (gSh_lines (gSe_probe v0)) (r7.2.2.1)) (r7.2.2.2.1)) (r7.2.2.2.2.1)) (r7.2.2.2.2.2)))) a1 o1 v1 a3 o3 v3 p1 r8 hr8) eX6_leastTug_32 MX6_66 ⟨0, 6, _, _, rfl, rfl, rfl⟩ [0, 1, 2, 3, 4, 5, 6, 7, 8, 9, 10, 11, 12, 13, 14, 15, 16, 17, 18, 25, 26, 27, 28] rfl rfl rfl rfl rfl rfl rfl rfl rfl (fun zb9 => ?_)
        refine r_if_eq C eX6_leastTug_35 (fun c10 => ?_) (fun c10 => ?_)
        · rw [if_pos c10] at hbL5
          refine r_iinc C (v := ((s1.1) + 1)) [(5, .int ((s1.1) + 1)), (0, .ref (a0 o0)), (1, .ref (a1 o1)), (2, .ref (a2 o2)), (3, .ref (a3 o3)), (4, .int p1)] eX6_leastTug_41 5 rfl rfl (by decide) rfl ?_
          refine r_goto C eX6_leastTug_44 ?_
          refine r_sub (lv' := [(0, .ref (a0 o0)), (1, .ref (a1 o1)), (2, .ref (a2 o2)), (3, .ref (a3 o3)), (4, .int p1), (5, .int ((s1.1) + 1))]) [1, 2, 3, 4, 5, 0] rfl ?_
          exact ihL5 (((s1.1) + 1), (r8.2.1), (r8.2.2.1), (r8.2.2.2), (r7.2.2.2.1), (r7.2.2.2.2.1), (r7.2.2.2.2.2)) hbL5
        · rw [if_neg c10] at hbL5
          refine r_iload C eX6_leastTug_38 5 rfl ?_
          obtain rfl := Option.some.inj (show some (Sum.inl (((s1.1), (r8.2.1), (r8.2.2.1), (r8.2.2.2), (r7.2.2.2.1), (r7.2.2.2.2.1), (r7.2.2.2.2.2)) : Int32 × (Nat → Int32) × Int64 × (Nat → Int32) × (Nat → Int32) × (Nat → Int32) × (Nat → Int32))) = some _ from hbL5)
          obtain rfl := Option.some.inj (show some (((s1.1), (r8.2.1), (r8.2.2.1), (r8.2.2.2), (r7.2.2.2.1), (r7.2.2.2.2.1), (r7.2.2.2.2.2)) : Int32 × (Nat → Int32) × Int64 × (Nat → Int32) × (Nat → Int32) × (Nat → Int32) × (Nat → Int32)) = some _ from hf)
          exact hret _ _ _ eX6_leastTug_40
  refine r_sub (lv' := [(0, .ref (a0 o0)), (1, .ref (a1 o1)), (2, .ref (a2 o2)), (3, .ref (a3 o3)), (4, .int p1), (5, .int 0)]) [1, 2, 3, 4, 5, 0] rfl ?_
  exact L5 LF (0, (gSh_ints (gSe_probe v0)), (gSh_harm (gSe_probe v0)), (gLi_fast (gSh_lines (gSe_probe v0))), (gLi_place (gSh_lines (gSe_probe v0))), (gLi_post (gSh_lines (gSe_probe v0))), (gLi_length (gSh_lines (gSe_probe v0)))) h3
