theorem eX11_go_0 : zd 1 cX11_go 0 1 (.iload_n 1) := ⟨by decide +kernel, rfl⟩
theorem eX11_go_1 : zd 1 cX11_go 1 2 (.i2l) := ⟨by decide +kernel, rfl⟩
theorem eX11_go_2 : zd 1 cX11_go 2 3 (.lconst 1) := ⟨by decide +kernel, rfl⟩
theorem eX11_go_3 : zd 3 cX11_go 3 6 (.ldc2_w 310) := ⟨by decide +kernel, rfl⟩
theorem eX11_go_6 : zd 3 cX11_go 6 9 (.invokestatic 86) := ⟨by decide +kernel, rfl⟩
theorem eX11_go_9 : zdi cX11_go 9 12 15 (.ifCond .ne) := ⟨6, by decide +kernel, rfl, by decide⟩
theorem eX11_go_12 : zd 2 cX11_go 12 14 (.ldc 90) := ⟨by decide +kernel, rfl⟩
theorem eX11_go_14 : zd 1 cX11_go 14 15 (.ireturn) := ⟨by decide +kernel, rfl⟩
theorem eX11_go_15 : zd 1 cX11_go 15 16 (.iconst 0) := ⟨by decide +kernel, rfl⟩
theorem eX11_go_16 : zd 1 cX11_go 16 17 (.istore_n 2) := ⟨by decide +kernel, rfl⟩
theorem eX11_go_17 : zd 1 cX11_go 17 18 (.iconst 0) := ⟨by decide +kernel, rfl⟩
theorem eX11_go_18 : zd 1 cX11_go 18 19 (.istore_n 3) := ⟨by decide +kernel, rfl⟩
theorem eX11_go_19 : zd 1 cX11_go 19 20 (.iload_n 3) := ⟨by decide +kernel, rfl⟩
theorem eX11_go_20 : zd 1 cX11_go 20 21 (.iload_n 1) := ⟨by decide +kernel, rfl⟩
theorem eX11_go_21 : zdi cX11_go 21 24 37 (.if_icmp .ge) := ⟨16, by decide +kernel, rfl, by decide⟩
theorem eX11_go_24 : zd 1 cX11_go 24 25 (.iload_n 2) := ⟨by decide +kernel, rfl⟩
theorem eX11_go_25 : zd 1 cX11_go 25 26 (.aload_n 0) := ⟨by decide +kernel, rfl⟩
theorem eX11_go_26 : zd 3 cX11_go 26 29 (.invokevirtual 312) := ⟨by decide +kernel, rfl⟩
theorem eX11_go_29 : zd 1 cX11_go 29 30 (.iadd) := ⟨by decide +kernel, rfl⟩
theorem eX11_go_30 : zd 1 cX11_go 30 31 (.istore_n 2) := ⟨by decide +kernel, rfl⟩
theorem eX11_go_31 : zd 3 cX11_go 31 34 (.iinc 3 1) := ⟨by decide +kernel, rfl⟩
theorem eX11_go_34 : zdi cX11_go 34 37 19 (.goto) := ⟨(-15), by decide +kernel, rfl, by decide⟩
theorem eX11_go_37 : zd 1 cX11_go 37 38 (.iload_n 2) := ⟨by decide +kernel, rfl⟩
theorem eX11_go_38 : zd 1 cX11_go 38 39 (.ireturn) := ⟨by decide +kernel, rfl⟩
noncomputable def fB_Mo_go_19 (v0 : tMo) (p1 : Int32) (ih : (Int32 × Int32 × (Nat → Int64) × (Nat → Int32) × (Nat → Int32)) → Option (Int32 × Int32 × (Nat → Int64) × (Nat → Int32) × (Nat → Int32))) (s3 : Int32 × Int32 × (Nat → Int64) × (Nat → Int32) × (Nat → Int32)) : Option (Int32 × Int32 × (Nat → Int64) × (Nat → Int32) × (Nat → Int32)) := (if p1 ≤ (s3.2.1) then (some ((s3.1), (s3.2.1), (s3.2.2.1), (s3.2.2.2.1), (s3.2.2.2.2))) else (Option.bind (f_Mo_second ((gMo_ints v0), (gMo_told v0), (gMo_postX v0), (gMo_postStrong v0), (gMo_atRow v0), (gMo_heights v0), (s3.2.2.1), (s3.2.2.2.1), (gMo_text v0), (gMo_said v0), (gMo_readTold v0), (gMo_readX v0), (gMo_readStrong v0), (gMo_readRow v0), (s3.2.2.2.2), (gMo_wasShip v0), (gMo_wasLines v0), (gMo_worst v0), (gMo_logRow v0), (gMo_images v0), (gMo_isKept v0))) (fun (r9 : Int32 × (Nat → Int64) × (Nat → Int32) × (Nat → Int32)) => (zlet ((s3.1) + (r9.1)) (fun (z10 : Int32) => (ih (z10, ((s3.2.1) + 1), (r9.2.1), (r9.2.2.1), (r9.2.2.2))))))))
noncomputable def f_Mo_go (v0 : tMo) (p1 : Int32) : Option (Int32 × (Nat → Int64) × (Nat → Int32) × (Nat → Int32)) := (if (f_Mo_in p1.toInt64 1 600) = 0 then (some ((-1000000002), (gMo_ship v0), (gMo_lines v0), (gMo_parting v0))) else (Option.bind (lp (fB_Mo_go_19 v0 p1) LF (0, 0, (gMo_ship v0), (gMo_lines v0), (gMo_parting v0))) (fun (q4 : Int32 × Int32 × (Nat → Int64) × (Nat → Int32) × (Nat → Int32)) => (some ((q4.1), (q4.2.2.1), (q4.2.2.2.1), (q4.2.2.2.2))))))
abbrev rm_Mo_go : Room := { frames := 7, cells := 0, slots := 0, locals := 173 }
set_option maxHeartbeats 4000000 in
set_option maxRecDepth 100000 in
theorem c_Mo_go (l : Launch) (g : zGl) (a0 : Nat → Nat) (o0 : Nat) (v0 : tMo) (p1 : Int32) (out : Int32 × (Nat → Int64) × (Nat → Int32) × (Nat → Int32)) (hf : f_Mo_go v0 p1 = some out) : zMi l yX11_go cX11_go 4 rm_Mo_go g [.ref (a0 o0), .int p1] (W_Mo g a0 o0 (gMo_ints v0) (gMo_told v0) (gMo_postX v0) (gMo_postStrong v0) (gMo_atRow v0) (gMo_heights v0) (gMo_ship v0) (gMo_lines v0) (gMo_text v0) (gMo_said v0) (gMo_readTold v0) (gMo_readX v0) (gMo_readStrong v0) (gMo_readRow v0) (gMo_parting v0) (gMo_wasShip v0) (gMo_wasLines v0) (gMo_worst v0) (gMo_logRow v0) (gMo_images v0) (gMo_isKept v0)) (out.1) (W_Mo g a0 o0 (gMo_ints v0) (gMo_told v0) (gMo_postX v0) (gMo_postStrong v0) (gMo_atRow v0) (gMo_heights v0) (out.2.1) (out.2.2.1) (gMo_text v0) (gMo_said v0) (gMo_readTold v0) (gMo_readX v0) (gMo_readStrong v0) (gMo_readRow v0) (out.2.2.2) (gMo_wasShip v0) (gMo_wasLines v0) (gMo_worst v0) (gMo_logRow v0) (gMo_images v0) (gMo_isKept v0)) := by
  refine zMi_of (lv := [(0, .ref (a0 o0)), (1, .int p1)]) (by decide) (Nat.le_of_ble_eq_true rfl) rfl (fun x hl hg C hret => ?_)
  subst hl; subst hg
  rw [f_Mo_go] at hf
  refine r_iload_n C eX11_go_0 1 rfl rfl ?_
  refine r_i2l C eX11_go_1 ?_
  refine r_lconst C (v := 1) eX11_go_2 (by decide) ?_
  refine r_ldc2 C (v := 600) eX11_go_3 q1339 ?_
  refine r_S_z (ws' := W_Mo (z_g x) a0 o0 (gMo_ints v0) (gMo_told v0) (gMo_postX v0) (gMo_postStrong v0) (gMo_atRow v0) (gMo_heights v0) (gMo_ship v0) (gMo_lines v0) (gMo_text v0) (gMo_said v0) (gMo_readTold v0) (gMo_readX v0) (gMo_readStrong v0) (gMo_readRow v0) (gMo_parting v0) (gMo_wasShip v0) (gMo_wasLines v0) (gMo_worst v0) (gMo_logRow v0) (gMo_images v0) (gMo_isKept v0)) C (c_Mo_in (z_l x) (z_g x)  p1.toInt64 1 600 _ rfl) eX11_go_6 MX11_86 [] rfl rfl rfl rfl [0, 1, 2, 3, 4, 5, 6, 7, 8, 9, 10, 11, 12, 13, 14, 15, 16, 17, 18, 19] rfl ⟨rfl, rfl, rfl, rfl, rfl, rfl, rfl, rfl, rfl, rfl, rfl, rfl, rfl, rfl, rfl, rfl, rfl, rfl, rfl, rfl, trivial⟩ 20 rfl rfl rfl rfl rfl rfl (fun zb1 => ?_)
  refine r_if_ne C eX11_go_9 (fun c2 => ?_) (fun c2 => ?_)
  · rw [if_neg c2] at hf
    refine r_iconst C (v := 0) eX11_go_15 (by decide) ?_
    refine r_istore_n C [(2, .int 0), (0, .ref (a0 o0)), (1, .int p1)] eX11_go_16 rfl (by decide) rfl ?_
    refine r_iconst C (v := 0) eX11_go_17 (by decide) ?_
    refine r_istore_n C [(3, .int 0), (2, .int 0), (0, .ref (a0 o0)), (1, .int p1)] eX11_go_18 rfl (by decide) rfl ?_
    obtain ⟨q4, h5, hf⟩ := zbind hf
    have J6 : vV x 4 0 0 (W_Mo (z_g x) a0 o0 (gMo_ints v0) (gMo_told v0) (gMo_postX v0) (gMo_postStrong v0) (gMo_atRow v0) (gMo_heights v0) (q4.2.2.1) (q4.2.2.2.1) (gMo_text v0) (gMo_said v0) (gMo_readTold v0) (gMo_readX v0) (gMo_readStrong v0) (gMo_readRow v0) (q4.2.2.2.2) (gMo_wasShip v0) (gMo_wasLines v0) (gMo_worst v0) (gMo_logRow v0) (gMo_images v0) (gMo_isKept v0)) 37 [(2, .int (q4.1))] [] := by
      refine r_iload_n C eX11_go_37 0 rfl rfl ?_
      obtain rfl := Option.some.inj (show some (((q4.1), (q4.2.2.1), (q4.2.2.2.1), (q4.2.2.2.2)) : Int32 × (Nat → Int64) × (Nat → Int32) × (Nat → Int32)) = some _ from hf)
      exact hret _ _ _ eX11_go_38
    have L7 : ∀ (nL7 : Nat) (s3 : Int32 × Int32 × (Nat → Int64) × (Nat → Int32) × (Nat → Int32)), lp (fB_Mo_go_19 v0 p1) nL7 s3 = some q4 → vV x 4 0 0 (W_Mo (z_g x) a0 o0 (gMo_ints v0) (gMo_told v0) (gMo_postX v0) (gMo_postStrong v0) (gMo_atRow v0) (gMo_heights v0) (s3.2.2.1) (s3.2.2.2.1) (gMo_text v0) (gMo_said v0) (gMo_readTold v0) (gMo_readX v0) (gMo_readStrong v0) (gMo_readRow v0) (s3.2.2.2.2) (gMo_wasShip v0) (gMo_wasLines v0) (gMo_worst v0) (gMo_logRow v0) (gMo_images v0) (gMo_isKept v0)) 19 [(0, .ref (a0 o0)), (1, .int p1), (2, .int (s3.1)), (3, .int (s3.2.1))] [] := by
      intro nL7
      induction nL7 with
      | zero => intro s3 hq; cases hq
      | succ nL7 ihL7 =>
        intro s3 hbL7
        rw [lp_succ, fB_Mo_go_19] at hbL7
        refine r_iload_n C eX11_go_19 3 rfl rfl ?_
        refine r_iload_n C eX11_go_20 1 rfl rfl ?_
        refine r_icmp_ge C eX11_go_21 (fun c8 => ?_) (fun c8 => ?_)
        · rw [if_pos c8] at hbL7
          obtain rfl := Option.some.inj hbL7
          refine r_sub (lv' := [(2, .int (s3.1))]) [2] rfl ?_
          exact J6
        · rw [if_neg c8] at hbL7
          refine r_iload_n C eX11_go_24 2 rfl rfl ?_
          refine r_aload_n C eX11_go_25 0 rfl rfl ?_
          obtain ⟨r9, hr9, hbL7⟩ := zbind hbL7
          refine r_V_i (ws' := W_Mo (z_g x) a0 o0 (gMo_ints v0) (gMo_told v0) (gMo_postX v0) (gMo_postStrong v0) (gMo_atRow v0) (gMo_heights v0) (r9.2.1) (r9.2.2.1) (gMo_text v0) (gMo_said v0) (gMo_readTold v0) (gMo_readX v0) (gMo_readStrong v0) (gMo_readRow v0) (r9.2.2.2) (gMo_wasShip v0) (gMo_wasLines v0) (gMo_worst v0) (gMo_logRow v0) (gMo_images v0) (gMo_isKept v0)) C (c_Mo_second (z_l x) (z_g x) a0 o0 ((gMo_ints v0), (gMo_told v0), (gMo_postX v0), (gMo_postStrong v0), (gMo_atRow v0), (gMo_heights v0), (s3.2.2.1), (s3.2.2.2.1), (gMo_text v0), (gMo_said v0), (gMo_readTold v0), (gMo_readX v0), (gMo_readStrong v0), (gMo_readRow v0), (s3.2.2.2.2), (gMo_wasShip v0), (gMo_wasLines v0), (gMo_worst v0), (gMo_logRow v0), (gMo_images v0), (gMo_isKept v0))  r9 hr9) eX11_go_26 MX11_312 ⟨0, 11, _, _, rfl, rfl, rfl⟩ [0, 1, 2, 3, 4, 5, 6, 7, 8, 9, 10, 11, 12, 13, 14, 15, 16, 17, 18, 19] rfl rfl rfl rfl [] rfl trivial 20 rfl rfl rfl rfl rfl rfl ?_
          refine r_iadd C eX11_go_29 ?_
          obtain ⟨z10, hz10, hbL7⟩ := zlet_of hbL7
          refine r_nami hz10 ?_
          refine r_istore_n C [(2, .int z10), (0, .ref (a0 o0)), (1, .int p1), (3, .int (s3.2.1))] eX11_go_30 rfl (by decide) rfl ?_
          refine r_iinc C (v := ((s3.2.1) + 1)) [(3, .int ((s3.2.1) + 1)), (2, .int z10), (0, .ref (a0 o0)), (1, .int p1)] eX11_go_31 3 rfl rfl (by decide) rfl ?_
          refine r_goto C eX11_go_34 ?_
          refine r_sub (lv' := [(0, .ref (a0 o0)), (1, .int p1), (2, .int z10), (3, .int ((s3.2.1) + 1))]) [2, 3, 1, 0] rfl ?_
          have hc := ihL7 (z10, ((s3.2.1) + 1), (r9.2.1), (r9.2.2.1), (r9.2.2.2)) hbL7
          exact hc
    refine r_sub (lv' := [(0, .ref (a0 o0)), (1, .int p1), (2, .int 0), (3, .int 0)]) [2, 3, 1, 0] rfl ?_
    have hc := L7 LF (0, 0, (gMo_ship v0), (gMo_lines v0), (gMo_parting v0)) h5
    exact hc
  · rw [if_pos c2] at hf
    refine r_ldc C (v := (-1000000002)) eX11_go_12 q1183 ?_
    obtain rfl := Option.some.inj (show some (((-1000000002), (gMo_ship v0), (gMo_lines v0), (gMo_parting v0)) : Int32 × (Nat → Int64) × (Nat → Int32) × (Nat → Int32)) = some _ from hf)
    exact hret _ _ _ eX11_go_14
theorem eX11_goBack_0 : zd 1 cX11_goBack 0 1 (.iload_n 1) := ⟨by decide +kernel, rfl⟩
theorem eX11_goBack_1 : zd 1 cX11_goBack 1 2 (.i2l) := ⟨by decide +kernel, rfl⟩
theorem eX11_goBack_2 : zd 1 cX11_goBack 2 3 (.lconst 0) := ⟨by decide +kernel, rfl⟩
theorem eX11_goBack_3 : zd 1 cX11_goBack 3 4 (.lconst 1) := ⟨by decide +kernel, rfl⟩
theorem eX11_goBack_4 : zd 3 cX11_goBack 4 7 (.invokestatic 86) := ⟨by decide +kernel, rfl⟩
theorem eX11_goBack_7 : zdi cX11_goBack 7 10 13 (.ifCond .ne) := ⟨6, by decide +kernel, rfl, by decide⟩
theorem eX11_goBack_10 : zd 2 cX11_goBack 10 12 (.ldc 202) := ⟨by decide +kernel, rfl⟩
theorem eX11_goBack_12 : zd 1 cX11_goBack 12 13 (.ireturn) := ⟨by decide +kernel, rfl⟩
theorem eX11_goBack_13 : zd 1 cX11_goBack 13 14 (.aload_n 0) := ⟨by decide +kernel, rfl⟩
theorem eX11_goBack_14 : zd 3 cX11_goBack 14 17 (.getfield 69) := ⟨by decide +kernel, rfl⟩
theorem eX11_goBack_17 : zd 1 cX11_goBack 17 18 (.iload_n 1) := ⟨by decide +kernel, rfl⟩
theorem eX11_goBack_18 : zd 1 cX11_goBack 18 19 (.baload) := ⟨by decide +kernel, rfl⟩
theorem eX11_goBack_19 : zdi cX11_goBack 19 22 26 (.ifCond .ne) := ⟨7, by decide +kernel, rfl, by decide⟩
theorem eX11_goBack_22 : zd 3 cX11_goBack 22 25 (.ldc_w 326) := ⟨by decide +kernel, rfl⟩
theorem eX11_goBack_25 : zd 1 cX11_goBack 25 26 (.ireturn) := ⟨by decide +kernel, rfl⟩
theorem eX11_goBack_26 : zd 1 cX11_goBack 26 27 (.iconst 0) := ⟨by decide +kernel, rfl⟩
theorem eX11_goBack_27 : zd 1 cX11_goBack 27 28 (.istore_n 2) := ⟨by decide +kernel, rfl⟩
theorem eX11_goBack_28 : zd 1 cX11_goBack 28 29 (.iload_n 2) := ⟨by decide +kernel, rfl⟩
theorem eX11_goBack_29 : zd 2 cX11_goBack 29 31 (.bipush 13) := ⟨by decide +kernel, rfl⟩
theorem eX11_goBack_31 : zdi cX11_goBack 31 34 57 (.if_icmp .ge) := ⟨26, by decide +kernel, rfl, by decide⟩
theorem eX11_goBack_34 : zd 1 cX11_goBack 34 35 (.aload_n 0) := ⟨by decide +kernel, rfl⟩
theorem eX11_goBack_35 : zd 3 cX11_goBack 35 38 (.getfield 25) := ⟨by decide +kernel, rfl⟩
theorem eX11_goBack_38 : zd 1 cX11_goBack 38 39 (.iload_n 2) := ⟨by decide +kernel, rfl⟩
theorem eX11_goBack_39 : zd 1 cX11_goBack 39 40 (.aload_n 0) := ⟨by decide +kernel, rfl⟩
theorem eX11_goBack_40 : zd 3 cX11_goBack 40 43 (.getfield 66) := ⟨by decide +kernel, rfl⟩
theorem eX11_goBack_43 : zd 2 cX11_goBack 43 45 (.bipush 40) := ⟨by decide +kernel, rfl⟩
theorem eX11_goBack_45 : zd 1 cX11_goBack 45 46 (.iload_n 1) := ⟨by decide +kernel, rfl⟩
theorem eX11_goBack_46 : zd 1 cX11_goBack 46 47 (.imul) := ⟨by decide +kernel, rfl⟩
theorem eX11_goBack_47 : zd 1 cX11_goBack 47 48 (.iload_n 2) := ⟨by decide +kernel, rfl⟩
theorem eX11_goBack_48 : zd 1 cX11_goBack 48 49 (.iadd) := ⟨by decide +kernel, rfl⟩
theorem eX11_goBack_49 : zd 1 cX11_goBack 49 50 (.laload) := ⟨by decide +kernel, rfl⟩
theorem eX11_goBack_50 : zd 1 cX11_goBack 50 51 (.lastore) := ⟨by decide +kernel, rfl⟩
theorem eX11_goBack_51 : zd 3 cX11_goBack 51 54 (.iinc 2 1) := ⟨by decide +kernel, rfl⟩
theorem eX11_goBack_54 : zdi cX11_goBack 54 57 28 (.goto) := ⟨(-26), by decide +kernel, rfl, by decide⟩
theorem eX11_goBack_57 : zd 1 cX11_goBack 57 58 (.iconst 0) := ⟨by decide +kernel, rfl⟩
theorem eX11_goBack_58 : zd 1 cX11_goBack 58 59 (.istore_n 2) := ⟨by decide +kernel, rfl⟩
theorem eX11_goBack_59 : zd 1 cX11_goBack 59 60 (.iload_n 2) := ⟨by decide +kernel, rfl⟩
theorem eX11_goBack_60 : zd 2 cX11_goBack 60 62 (.bipush 24) := ⟨by decide +kernel, rfl⟩
theorem eX11_goBack_62 : zdi cX11_goBack 62 65 92 (.if_icmp .ge) := ⟨30, by decide +kernel, rfl, by decide⟩
theorem eX11_goBack_65 : zd 1 cX11_goBack 65 66 (.aload_n 0) := ⟨by decide +kernel, rfl⟩
theorem eX11_goBack_66 : zd 3 cX11_goBack 66 69 (.getfield 29) := ⟨by decide +kernel, rfl⟩
theorem eX11_goBack_69 : zd 1 cX11_goBack 69 70 (.iload_n 2) := ⟨by decide +kernel, rfl⟩
theorem eX11_goBack_70 : zd 1 cX11_goBack 70 71 (.aload_n 0) := ⟨by decide +kernel, rfl⟩
theorem eX11_goBack_71 : zd 3 cX11_goBack 71 74 (.getfield 66) := ⟨by decide +kernel, rfl⟩
theorem eX11_goBack_74 : zd 2 cX11_goBack 74 76 (.bipush 40) := ⟨by decide +kernel, rfl⟩
theorem eX11_goBack_76 : zd 1 cX11_goBack 76 77 (.iload_n 1) := ⟨by decide +kernel, rfl⟩
theorem eX11_goBack_77 : zd 1 cX11_goBack 77 78 (.imul) := ⟨by decide +kernel, rfl⟩
theorem eX11_goBack_78 : zd 2 cX11_goBack 78 80 (.bipush 13) := ⟨by decide +kernel, rfl⟩
theorem eX11_goBack_80 : zd 1 cX11_goBack 80 81 (.iadd) := ⟨by decide +kernel, rfl⟩
theorem eX11_goBack_81 : zd 1 cX11_goBack 81 82 (.iload_n 2) := ⟨by decide +kernel, rfl⟩
theorem eX11_goBack_82 : zd 1 cX11_goBack 82 83 (.iadd) := ⟨by decide +kernel, rfl⟩
theorem eX11_goBack_83 : zd 1 cX11_goBack 83 84 (.laload) := ⟨by decide +kernel, rfl⟩
theorem eX11_goBack_84 : zd 1 cX11_goBack 84 85 (.l2i) := ⟨by decide +kernel, rfl⟩
theorem eX11_goBack_85 : zd 1 cX11_goBack 85 86 (.iastore) := ⟨by decide +kernel, rfl⟩
theorem eX11_goBack_86 : zd 3 cX11_goBack 86 89 (.iinc 2 1) := ⟨by decide +kernel, rfl⟩
theorem eX11_goBack_89 : zdi cX11_goBack 89 92 59 (.goto) := ⟨(-30), by decide +kernel, rfl, by decide⟩
theorem eX11_goBack_92 : zd 1 cX11_goBack 92 93 (.aload_n 0) := ⟨by decide +kernel, rfl⟩
theorem eX11_goBack_93 : zd 1 cX11_goBack 93 94 (.aload_n 0) := ⟨by decide +kernel, rfl⟩
theorem eX11_goBack_94 : zd 3 cX11_goBack 94 97 (.getfield 66) := ⟨by decide +kernel, rfl⟩
theorem eX11_goBack_97 : zd 2 cX11_goBack 97 99 (.bipush 40) := ⟨by decide +kernel, rfl⟩
theorem eX11_goBack_99 : zd 1 cX11_goBack 99 100 (.iload_n 1) := ⟨by decide +kernel, rfl⟩
theorem eX11_goBack_100 : zd 1 cX11_goBack 100 101 (.imul) := ⟨by decide +kernel, rfl⟩
theorem eX11_goBack_101 : zd 2 cX11_goBack 101 103 (.bipush 37) := ⟨by decide +kernel, rfl⟩
theorem eX11_goBack_103 : zd 1 cX11_goBack 103 104 (.iadd) := ⟨by decide +kernel, rfl⟩
theorem eX11_goBack_104 : zd 1 cX11_goBack 104 105 (.laload) := ⟨by decide +kernel, rfl⟩
theorem eX11_goBack_105 : zd 1 cX11_goBack 105 106 (.l2i) := ⟨by decide +kernel, rfl⟩
theorem eX11_goBack_106 : zd 3 cX11_goBack 106 109 (.putfield 331) := ⟨by decide +kernel, rfl⟩
theorem eX11_goBack_109 : zd 1 cX11_goBack 109 110 (.iconst 1) := ⟨by decide +kernel, rfl⟩
theorem eX11_goBack_110 : zd 1 cX11_goBack 110 111 (.ireturn) := ⟨by decide +kernel, rfl⟩
theorem FX11_66 : zlF RX11 66 11 32 := ⟨(RX11, TX11, 34), rfl, by decide, q1103, zin11⟩
theorem FX11_69 : zlF RX11 69 11 33 := ⟨(RX11, TX11, 34), rfl, by decide, q1104, zin11⟩
noncomputable def fB_Mo_goBack_28 (v0 : tMo) (p1 : Int32) (ih : (Int32 × (Nat → Int64)) → Option (Int32 × (Nat → Int64))) (s5 : Int32 × (Nat → Int64)) : Option (Int32 × (Nat → Int64)) := (if 13 ≤ (s5.1) then (some ((s5.1), (s5.2))) else (if inb ((40 * p1) + (s5.1)) 80 = true then (zlet ((gMo_images v0) (ix ((40 * p1) + (s5.1)))) (fun (z12 : Int64) => (if inb (s5.1) 13 = true then (ih (((s5.1) + 1), (vp_updL (s5.2) (ix (s5.1)) z12))) else none))) else none))
noncomputable def fB_Mo_goBack_59 (v0 : tMo) (p1 : Int32) (ih : (Int32 × (Nat → Int32)) → Option (Int32 × (Nat → Int32))) (s14 : Int32 × (Nat → Int32)) : Option (Int32 × (Nat → Int32)) := (if 24 ≤ (s14.1) then (some ((s14.1), (s14.2))) else (if inb (((40 * p1) + 13) + (s14.1)) 80 = true then (zlet ((gMo_images v0) (ix (((40 * p1) + 13) + (s14.1)))).toInt32 (fun (z21 : Int32) => (if inb (s14.1) 24 = true then (ih (((s14.1) + 1), (upd (s14.2) (ix (s14.1)) z21))) else none))) else none))
noncomputable def f_Mo_goBack (v0 : tMo) (p1 : Int32) : Option (Int32 × (Nat → Int32) × (Nat → Int64) × (Nat → Int32)) := (if (f_Mo_in p1.toInt64 0 1) = 0 then (some ((-1000000001), (gMo_ints v0), (gMo_ship v0), (gMo_lines v0))) else (if inb p1 2 = true then (if ((gMo_isKept v0) (ix p1)) = 0 then (some ((-1000000003), (gMo_ints v0), (gMo_ship v0), (gMo_lines v0))) else (Option.bind (lp (fB_Mo_goBack_28 v0 p1) LF (0, (gMo_ship v0))) (fun (q6 : Int32 × (Nat → Int64)) => (Option.bind (lp (fB_Mo_goBack_59 v0 p1) LF (0, (gMo_lines v0))) (fun (q15 : Int32 × (Nat → Int32)) => (if inb ((40 * p1) + 37) 80 = true then (zlet ((gMo_images v0) (ix ((40 * p1) + 37))).toInt32 (fun (z24 : Int32) => (some (1, (upd (gMo_ints v0) 26 z24), (q6.2), (q15.2))))) else none)))))) else none))
abbrev rm_Mo_goBack : Room := { frames := 1, cells := 0, slots := 0, locals := 25 }
set_option maxHeartbeats 4000000 in
set_option maxRecDepth 100000 in
theorem c_Mo_goBack (l : Launch) (g : zGl) (a0 : Nat → Nat) (o0 : Nat) (v0 : tMo) (p1 : Int32) (out : Int32 × (Nat → Int32) × (Nat → Int64) × (Nat → Int32)) (hf : f_Mo_goBack v0 p1 = some out) : zMi l yX11_goBack cX11_goBack 3 rm_Mo_goBack g [.ref (a0 o0), .int p1] (W_Mo g a0 o0 (gMo_ints v0) (gMo_told v0) (gMo_postX v0) (gMo_postStrong v0) (gMo_atRow v0) (gMo_heights v0) (gMo_ship v0) (gMo_lines v0) (gMo_text v0) (gMo_said v0) (gMo_readTold v0) (gMo_readX v0) (gMo_readStrong v0) (gMo_readRow v0) (gMo_parting v0) (gMo_wasShip v0) (gMo_wasLines v0) (gMo_worst v0) (gMo_logRow v0) (gMo_images v0) (gMo_isKept v0)) (out.1) (W_Mo g a0 o0 (out.2.1) (gMo_told v0) (gMo_postX v0) (gMo_postStrong v0) (gMo_atRow v0) (gMo_heights v0) (out.2.2.1) (out.2.2.2) (gMo_text v0) (gMo_said v0) (gMo_readTold v0) (gMo_readX v0) (gMo_readStrong v0) (gMo_readRow v0) (gMo_parting v0) (gMo_wasShip v0) (gMo_wasLines v0) (gMo_worst v0) (gMo_logRow v0) (gMo_images v0) (gMo_isKept v0)) := by
  refine zMi_of (lv := [(0, .ref (a0 o0)), (1, .int p1)]) (by decide) (Nat.le_of_ble_eq_true rfl) rfl (fun x hl hg C hret => ?_)
  subst hl; subst hg
  rw [f_Mo_goBack] at hf
  refine r_iload_n C eX11_goBack_0 1 rfl rfl ?_
  refine r_i2l C eX11_goBack_1 ?_
  refine r_lconst C (v := 0) eX11_goBack_2 (by decide) ?_
  refine r_lconst C (v := 1) eX11_goBack_3 (by decide) ?_
  refine r_S_z (ws' := W_Mo (z_g x) a0 o0 (gMo_ints v0) (gMo_told v0) (gMo_postX v0) (gMo_postStrong v0) (gMo_atRow v0) (gMo_heights v0) (gMo_ship v0) (gMo_lines v0) (gMo_text v0) (gMo_said v0) (gMo_readTold v0) (gMo_readX v0) (gMo_readStrong v0) (gMo_readRow v0) (gMo_parting v0) (gMo_wasShip v0) (gMo_wasLines v0) (gMo_worst v0) (gMo_logRow v0) (gMo_images v0) (gMo_isKept v0)) C (c_Mo_in (z_l x) (z_g x)  p1.toInt64 0 1 _ rfl) eX11_goBack_4 MX11_86 [] rfl rfl rfl rfl [0, 1, 2, 3, 4, 5, 6, 7, 8, 9, 10, 11, 12, 13, 14, 15, 16, 17, 18, 19] rfl ⟨rfl, rfl, rfl, rfl, rfl, rfl, rfl, rfl, rfl, rfl, rfl, rfl, rfl, rfl, rfl, rfl, rfl, rfl, rfl, rfl, trivial⟩ 20 rfl rfl rfl rfl rfl rfl (fun zb1 => ?_)
  refine r_if_ne C eX11_goBack_7 (fun c2 => ?_) (fun c2 => ?_)
  · rw [if_neg c2] at hf
    refine r_aload_n C eX11_goBack_13 0 rfl rfl ?_
    refine r_get (v := .ref (a0 (o0 + 19))) C eX11_goBack_14 FX11_69 0 rfl rfl ?_
    refine r_iload_n C eX11_goBack_17 1 rfl rfl ?_
    obtain ⟨hb3, hf⟩ := zchk hf
    refine r_zald C eX11_goBack_18 19 rfl (inb_in hb3) ((gMo_isKept v0) (ix p1)) rfl ?_
    refine r_if_ne C eX11_goBack_19 (fun c4 => ?_) (fun c4 => ?_)
    · rw [if_neg c4] at hf
      refine r_iconst C (v := 0) eX11_goBack_26 (by decide) ?_
      refine r_istore_n C [(2, .int 0), (0, .ref (a0 o0)), (1, .int p1)] eX11_goBack_27 rfl (by decide) rfl ?_
      obtain ⟨q6, h7, hf⟩ := zbind hf
      have J8 : vV x 3 0 0 (W_Mo (z_g x) a0 o0 (gMo_ints v0) (gMo_told v0) (gMo_postX v0) (gMo_postStrong v0) (gMo_atRow v0) (gMo_heights v0) (q6.2) (gMo_lines v0) (gMo_text v0) (gMo_said v0) (gMo_readTold v0) (gMo_readX v0) (gMo_readStrong v0) (gMo_readRow v0) (gMo_parting v0) (gMo_wasShip v0) (gMo_wasLines v0) (gMo_worst v0) (gMo_logRow v0) (gMo_images v0) (gMo_isKept v0)) 57 [(0, .ref (a0 o0)), (1, .int p1)] [] := by
        refine r_iconst C (v := 0) eX11_goBack_57 (by decide) ?_
        refine r_istore_n C [(2, .int 0), (0, .ref (a0 o0)), (1, .int p1)] eX11_goBack_58 rfl (by decide) rfl ?_
        obtain ⟨q15, h16, hf⟩ := zbind hf
        have J17 : vV x 3 0 0 (W_Mo (z_g x) a0 o0 (gMo_ints v0) (gMo_told v0) (gMo_postX v0) (gMo_postStrong v0) (gMo_atRow v0) (gMo_heights v0) (q6.2) (q15.2) (gMo_text v0) (gMo_said v0) (gMo_readTold v0) (gMo_readX v0) (gMo_readStrong v0) (gMo_readRow v0) (gMo_parting v0) (gMo_wasShip v0) (gMo_wasLines v0) (gMo_worst v0) (gMo_logRow v0) (gMo_images v0) (gMo_isKept v0)) 92 [(0, .ref (a0 o0)), (1, .int p1)] [] := by
          refine r_aload_n C eX11_goBack_92 0 rfl rfl ?_
          refine r_aload_n C eX11_goBack_93 0 rfl rfl ?_
          refine r_get (v := .ref (a0 (o0 + 18))) C eX11_goBack_94 FX11_66 0 rfl rfl ?_
          refine r_bipush C (v := 40) eX11_goBack_97 (by decide) ?_
          refine r_iload_n C eX11_goBack_99 1 rfl rfl ?_
          refine r_imul C eX11_goBack_100 ?_
          refine r_bipush C (v := 37) eX11_goBack_101 (by decide) ?_
          refine r_iadd C eX11_goBack_103 ?_
          obtain ⟨hb23, hf⟩ := zchk hf
          refine r_lald C eX11_goBack_104 18 rfl (inb_in hb23) ((gMo_images v0) (ix ((40 * p1) + 37))) rfl ?_
          refine r_l2i C eX11_goBack_105 ?_
          obtain ⟨z24, hz24, hf⟩ := zlet_of hf
          refine r_nami hz24 ?_
          refine r_put (ws' := W_Mo (z_g x) a0 o0 (upd (gMo_ints v0) 26 z24) (gMo_told v0) (gMo_postX v0) (gMo_postStrong v0) (gMo_atRow v0) (gMo_heights v0) (q6.2) (q15.2) (gMo_text v0) (gMo_said v0) (gMo_readTold v0) (gMo_readX v0) (gMo_readStrong v0) (gMo_readRow v0) (gMo_parting v0) (gMo_wasShip v0) (gMo_wasLines v0) (gMo_worst v0) (gMo_logRow v0) (gMo_images v0) (gMo_isKept v0)) C eX11_goBack_106 PX11_331 0 rfl rfl rfl (Nat.le_of_ble_eq_true rfl) rfl ?_
          refine r_iconst C (v := 1) eX11_goBack_109 (by decide) ?_
          obtain rfl := Option.some.inj (show some ((1, (upd (gMo_ints v0) 26 z24), (q6.2), (q15.2)) : Int32 × (Nat → Int32) × (Nat → Int64) × (Nat → Int32)) = some _ from hf)
          exact hret _ _ _ eX11_goBack_110
        have L18 : ∀ (nL18 : Nat) (s14 : Int32 × (Nat → Int32)), lp (fB_Mo_goBack_59 v0 p1) nL18 s14 = some q15 → vV x 3 0 0 (W_Mo (z_g x) a0 o0 (gMo_ints v0) (gMo_told v0) (gMo_postX v0) (gMo_postStrong v0) (gMo_atRow v0) (gMo_heights v0) (q6.2) (s14.2) (gMo_text v0) (gMo_said v0) (gMo_readTold v0) (gMo_readX v0) (gMo_readStrong v0) (gMo_readRow v0) (gMo_parting v0) (gMo_wasShip v0) (gMo_wasLines v0) (gMo_worst v0) (gMo_logRow v0) (gMo_images v0) (gMo_isKept v0)) 59 [(0, .ref (a0 o0)), (1, .int p1), (2, .int (s14.1))] [] := by
          intro nL18
          induction nL18 with
          | zero => intro s14 hq; cases hq
          | succ nL18 ihL18 =>
            intro s14 hbL18
            rw [lp_succ, fB_Mo_goBack_59] at hbL18
            refine r_iload_n C eX11_goBack_59 2 rfl rfl ?_
            refine r_bipush C (v := 24) eX11_goBack_60 (by decide) ?_
            refine r_icmp_ge C eX11_goBack_62 (fun c19 => ?_) (fun c19 => ?_)
            · rw [if_pos c19] at hbL18
              obtain rfl := Option.some.inj hbL18
              refine r_sub (lv' := [(0, .ref (a0 o0)), (1, .int p1)]) [0, 1] rfl ?_
              exact J17
            · rw [if_neg c19] at hbL18
              refine r_aload_n C eX11_goBack_65 0 rfl rfl ?_
              refine r_get (v := .ref (a0 (o0 + 7))) C eX11_goBack_66 FX11_29 0 rfl rfl ?_
              refine r_iload_n C eX11_goBack_69 2 rfl rfl ?_
              refine r_aload_n C eX11_goBack_70 0 rfl rfl ?_
              refine r_get (v := .ref (a0 (o0 + 18))) C eX11_goBack_71 FX11_66 0 rfl rfl ?_
              refine r_bipush C (v := 40) eX11_goBack_74 (by decide) ?_
              refine r_iload_n C eX11_goBack_76 1 rfl rfl ?_
              refine r_imul C eX11_goBack_77 ?_
              refine r_bipush C (v := 13) eX11_goBack_78 (by decide) ?_
              refine r_iadd C eX11_goBack_80 ?_
              refine r_iload_n C eX11_goBack_81 2 rfl rfl ?_
              refine r_iadd C eX11_goBack_82 ?_
              obtain ⟨hb20, hbL18⟩ := zchk hbL18
              refine r_lald C eX11_goBack_83 18 rfl (inb_in hb20) ((gMo_images v0) (ix (((40 * p1) + 13) + (s14.1)))) rfl ?_
              refine r_l2i C eX11_goBack_84 ?_
              obtain ⟨z21, hz21, hbL18⟩ := zlet_of hbL18
              refine r_nami hz21 ?_
              obtain ⟨hb22, hbL18⟩ := zchk hbL18
              refine r_iast (ws' := W_Mo (z_g x) a0 o0 (gMo_ints v0) (gMo_told v0) (gMo_postX v0) (gMo_postStrong v0) (gMo_atRow v0) (gMo_heights v0) (q6.2) (upd (s14.2) (ix (s14.1)) z21) (gMo_text v0) (gMo_said v0) (gMo_readTold v0) (gMo_readX v0) (gMo_readStrong v0) (gMo_readRow v0) (gMo_parting v0) (gMo_wasShip v0) (gMo_wasLines v0) (gMo_worst v0) (gMo_logRow v0) (gMo_images v0) (gMo_isKept v0)) C eX11_goBack_85 7 rfl (inb_in hb22) rfl ?_
              refine r_iinc C (v := ((s14.1) + 1)) [(2, .int ((s14.1) + 1)), (0, .ref (a0 o0)), (1, .int p1)] eX11_goBack_86 2 rfl rfl (by decide) rfl ?_
              refine r_goto C eX11_goBack_89 ?_
              refine r_sub (lv' := [(0, .ref (a0 o0)), (1, .int p1), (2, .int ((s14.1) + 1))]) [1, 2, 0] rfl ?_
              have hc := ihL18 (((s14.1) + 1), (upd (s14.2) (ix (s14.1)) z21)) hbL18
              exact hc
        refine r_sub (lv' := [(0, .ref (a0 o0)), (1, .int p1), (2, .int 0)]) [1, 2, 0] rfl ?_
        have hc := L18 LF (0, (gMo_lines v0)) h16
        exact hc
      have L9 : ∀ (nL9 : Nat) (s5 : Int32 × (Nat → Int64)), lp (fB_Mo_goBack_28 v0 p1) nL9 s5 = some q6 → vV x 3 0 0 (W_Mo (z_g x) a0 o0 (gMo_ints v0) (gMo_told v0) (gMo_postX v0) (gMo_postStrong v0) (gMo_atRow v0) (gMo_heights v0) (s5.2) (gMo_lines v0) (gMo_text v0) (gMo_said v0) (gMo_readTold v0) (gMo_readX v0) (gMo_readStrong v0) (gMo_readRow v0) (gMo_parting v0) (gMo_wasShip v0) (gMo_wasLines v0) (gMo_worst v0) (gMo_logRow v0) (gMo_images v0) (gMo_isKept v0)) 28 [(0, .ref (a0 o0)), (1, .int p1), (2, .int (s5.1))] [] := by
        intro nL9
        induction nL9 with
        | zero => intro s5 hq; cases hq
        | succ nL9 ihL9 =>
          intro s5 hbL9
          rw [lp_succ, fB_Mo_goBack_28] at hbL9
          refine r_iload_n C eX11_goBack_28 2 rfl rfl ?_
          refine r_bipush C (v := 13) eX11_goBack_29 (by decide) ?_
          refine r_icmp_ge C eX11_goBack_31 (fun c10 => ?_) (fun c10 => ?_)
          · rw [if_pos c10] at hbL9
            obtain rfl := Option.some.inj hbL9
            refine r_sub (lv' := [(0, .ref (a0 o0)), (1, .int p1)]) [0, 1] rfl ?_
            exact J8
          · rw [if_neg c10] at hbL9
            refine r_aload_n C eX11_goBack_34 0 rfl rfl ?_
            refine r_get (v := .ref (a0 (o0 + 6))) C eX11_goBack_35 FX11_25 0 rfl rfl ?_
            refine r_iload_n C eX11_goBack_38 2 rfl rfl ?_
            refine r_aload_n C eX11_goBack_39 0 rfl rfl ?_
            refine r_get (v := .ref (a0 (o0 + 18))) C eX11_goBack_40 FX11_66 0 rfl rfl ?_
            refine r_bipush C (v := 40) eX11_goBack_43 (by decide) ?_
            refine r_iload_n C eX11_goBack_45 1 rfl rfl ?_
            refine r_imul C eX11_goBack_46 ?_
            refine r_iload_n C eX11_goBack_47 2 rfl rfl ?_
            refine r_iadd C eX11_goBack_48 ?_
            obtain ⟨hb11, hbL9⟩ := zchk hbL9
            refine r_lald C eX11_goBack_49 18 rfl (inb_in hb11) ((gMo_images v0) (ix ((40 * p1) + (s5.1)))) rfl ?_
            obtain ⟨z12, hz12, hbL9⟩ := zlet_of hbL9
            refine r_naml hz12 ?_
            obtain ⟨hb13, hbL9⟩ := zchk hbL9
            refine r_last (ws' := W_Mo (z_g x) a0 o0 (gMo_ints v0) (gMo_told v0) (gMo_postX v0) (gMo_postStrong v0) (gMo_atRow v0) (gMo_heights v0) (vp_updL (s5.2) (ix (s5.1)) z12) (gMo_lines v0) (gMo_text v0) (gMo_said v0) (gMo_readTold v0) (gMo_readX v0) (gMo_readStrong v0) (gMo_readRow v0) (gMo_parting v0) (gMo_wasShip v0) (gMo_wasLines v0) (gMo_worst v0) (gMo_logRow v0) (gMo_images v0) (gMo_isKept v0)) C eX11_goBack_50 6 rfl (inb_in hb13) rfl ?_
            refine r_iinc C (v := ((s5.1) + 1)) [(2, .int ((s5.1) + 1)), (0, .ref (a0 o0)), (1, .int p1)] eX11_goBack_51 2 rfl rfl (by decide) rfl ?_
            refine r_goto C eX11_goBack_54 ?_
            refine r_sub (lv' := [(0, .ref (a0 o0)), (1, .int p1), (2, .int ((s5.1) + 1))]) [1, 2, 0] rfl ?_
            have hc := ihL9 (((s5.1) + 1), (vp_updL (s5.2) (ix (s5.1)) z12)) hbL9
            exact hc
      refine r_sub (lv' := [(0, .ref (a0 o0)), (1, .int p1), (2, .int 0)]) [1, 2, 0] rfl ?_
      have hc := L9 LF (0, (gMo_ship v0)) h7
      exact hc
    · rw [if_pos c4] at hf
      refine r_ldc_w C (v := (-1000000003)) eX11_goBack_22 q1407 ?_
      obtain rfl := Option.some.inj (show some (((-1000000003), (gMo_ints v0), (gMo_ship v0), (gMo_lines v0)) : Int32 × (Nat → Int32) × (Nat → Int64) × (Nat → Int32)) = some _ from hf)
      exact hret _ _ _ eX11_goBack_25
  · rw [if_pos c2] at hf
    refine r_ldc C (v := (-1000000001)) eX11_goBack_10 q1276 ?_
    obtain rfl := Option.some.inj (show some (((-1000000001), (gMo_ints v0), (gMo_ship v0), (gMo_lines v0)) : Int32 × (Nat → Int32) × (Nat → Int64) × (Nat → Int32)) = some _ from hf)
    exact hret _ _ _ eX11_goBack_12
theorem eX11_greater_0 : zd 1 cX11_greater 0 1 (.lload_n 0) := ⟨by decide +kernel, rfl⟩
theorem eX11_greater_1 : zd 1 cX11_greater 1 2 (.lload_n 2) := ⟨by decide +kernel, rfl⟩
theorem eX11_greater_2 : zd 1 cX11_greater 2 3 (.lcmp) := ⟨by decide +kernel, rfl⟩
theorem eX11_greater_3 : zdi cX11_greater 3 6 10 (.ifCond .le) := ⟨7, by decide +kernel, rfl, by decide⟩
theorem eX11_greater_6 : zd 1 cX11_greater 6 7 (.lload_n 0) := ⟨by decide +kernel, rfl⟩
theorem eX11_greater_7 : zdi cX11_greater 7 10 11 (.goto) := ⟨4, by decide +kernel, rfl, by decide⟩
theorem eX11_greater_10 : zd 1 cX11_greater 10 11 (.lload_n 2) := ⟨by decide +kernel, rfl⟩
theorem eX11_greater_11 : zd 1 cX11_greater 11 12 (.lreturn) := ⟨by decide +kernel, rfl⟩
noncomputable def f_Mo_greater  (p1 : Int64) (p2 : Int64) : Int64 := (if p1 ≤ p2 then p2 else p1)
abbrev rm_Mo_greater : Room := { frames := 0, cells := 0, slots := 0, locals := 0 }
set_option maxHeartbeats 4000000 in
set_option maxRecDepth 100000 in
theorem c_Mo_greater (l : Launch) (g : zGl)  (p1 : Int64) (p2 : Int64) (out : Int64) (hf : f_Mo_greater p1 p2 = out) : zMl l yX11_greater cX11_greater 4 rm_Mo_greater g [.long p1, .long p2] ([]) out ([]) := by
  refine zMl_of (lv := [(0, .long p1), (2, .long p2)]) (by decide) (Nat.le_of_ble_eq_true rfl) rfl (fun x hl hg C hret => ?_)
  subst hl; subst hg
  rw [f_Mo_greater] at hf
  refine r_lload_n C eX11_greater_0 0 rfl rfl ?_
  refine r_lload_n C eX11_greater_1 1 rfl rfl ?_
  refine r_lcmp_le C eX11_greater_2 eX11_greater_3 (fun c1 => ?_) (fun c1 => ?_)
  · rw [if_pos c1] at hf
    refine r_lload_n C eX11_greater_10 1 rfl rfl ?_
    subst hf
    exact hret _ _ _ eX11_greater_11
  · rw [if_neg c1] at hf
    refine r_lload_n C eX11_greater_6 0 rfl rfl ?_
    refine r_goto C eX11_greater_7 ?_
    subst hf
    exact hret _ _ _ eX11_greater_11
theorem eX11_oddsOf_0 : zd 2 cX11_oddsOf 0 2 (.bipush 100) := ⟨by decide +kernel, rfl⟩
theorem eX11_oddsOf_2 : zd 1 cX11_oddsOf 2 3 (.aload_n 0) := ⟨by decide +kernel, rfl⟩
theorem eX11_oddsOf_3 : zd 1 cX11_oddsOf 3 4 (.iload_n 1) := ⟨by decide +kernel, rfl⟩
theorem eX11_oddsOf_4 : zd 1 cX11_oddsOf 4 5 (.iload_n 2) := ⟨by decide +kernel, rfl⟩
theorem eX11_oddsOf_5 : zd 3 cX11_oddsOf 5 8 (.invokevirtual 230) := ⟨by decide +kernel, rfl⟩
theorem eX11_oddsOf_8 : zd 3 cX11_oddsOf 8 11 (.ldc2_w 341) := ⟨by decide +kernel, rfl⟩
theorem eX11_oddsOf_11 : zd 1 cX11_oddsOf 11 12 (.ldiv) := ⟨by decide +kernel, rfl⟩
theorem eX11_oddsOf_12 : zd 1 cX11_oddsOf 12 13 (.l2i) := ⟨by decide +kernel, rfl⟩
theorem eX11_oddsOf_13 : zd 1 cX11_oddsOf 13 14 (.isub) := ⟨by decide +kernel, rfl⟩
theorem eX11_oddsOf_14 : zd 1 cX11_oddsOf 14 15 (.istore_n 3) := ⟨by decide +kernel, rfl⟩
theorem eX11_oddsOf_15 : zd 1 cX11_oddsOf 15 16 (.iload_n 3) := ⟨by decide +kernel, rfl⟩
theorem eX11_oddsOf_16 : zdi cX11_oddsOf 16 19 23 (.ifCond .ge) := ⟨7, by decide +kernel, rfl, by decide⟩
theorem eX11_oddsOf_19 : zd 1 cX11_oddsOf 19 20 (.iconst 0) := ⟨by decide +kernel, rfl⟩
theorem eX11_oddsOf_20 : zdi cX11_oddsOf 20 23 24 (.goto) := ⟨4, by decide +kernel, rfl, by decide⟩
theorem eX11_oddsOf_23 : zd 1 cX11_oddsOf 23 24 (.iload_n 3) := ⟨by decide +kernel, rfl⟩
theorem eX11_oddsOf_24 : zd 1 cX11_oddsOf 24 25 (.ireturn) := ⟨by decide +kernel, rfl⟩
noncomputable def f_Mo_oddsOf (v0 : tMo) (p1 : Int32) (p2 : Int32) : Option (Int32) := (Option.bind (f_Mo_distance v0 p1 p2) (fun (r1 : Int64) => (zlet (100 - (r1 / 50).toInt32) (fun (z2 : Int32) => (if 0 ≤ z2 then (some z2) else (some 0))))))
abbrev rm_Mo_oddsOf : Room := { frames := 4, cells := 0, slots := 0, locals := 91 }
set_option maxHeartbeats 4000000 in
set_option maxRecDepth 100000 in
theorem c_Mo_oddsOf (l : Launch) (g : zGl) (a0 : Nat → Nat) (o0 : Nat) (v0 : tMo) (p1 : Int32) (p2 : Int32) (out : Int32) (hf : f_Mo_oddsOf v0 p1 p2 = some out) : zMi l yX11_oddsOf cX11_oddsOf 4 rm_Mo_oddsOf g [.ref (a0 o0), .int p1, .int p2] (W_Mo g a0 o0 (gMo_ints v0) (gMo_told v0) (gMo_postX v0) (gMo_postStrong v0) (gMo_atRow v0) (gMo_heights v0) (gMo_ship v0) (gMo_lines v0) (gMo_text v0) (gMo_said v0) (gMo_readTold v0) (gMo_readX v0) (gMo_readStrong v0) (gMo_readRow v0) (gMo_parting v0) (gMo_wasShip v0) (gMo_wasLines v0) (gMo_worst v0) (gMo_logRow v0) (gMo_images v0) (gMo_isKept v0)) out (W_Mo g a0 o0 (gMo_ints v0) (gMo_told v0) (gMo_postX v0) (gMo_postStrong v0) (gMo_atRow v0) (gMo_heights v0) (gMo_ship v0) (gMo_lines v0) (gMo_text v0) (gMo_said v0) (gMo_readTold v0) (gMo_readX v0) (gMo_readStrong v0) (gMo_readRow v0) (gMo_parting v0) (gMo_wasShip v0) (gMo_wasLines v0) (gMo_worst v0) (gMo_logRow v0) (gMo_images v0) (gMo_isKept v0)) := by
  refine zMi_of (lv := [(0, .ref (a0 o0)), (1, .int p1), (2, .int p2)]) (by decide) (Nat.le_of_ble_eq_true rfl) rfl (fun x hl hg C hret => ?_)
  subst hl; subst hg
  rw [f_Mo_oddsOf] at hf
  refine r_bipush C (v := 100) eX11_oddsOf_0 (by decide) ?_
  refine r_aload_n C eX11_oddsOf_2 0 rfl rfl ?_
  refine r_iload_n C eX11_oddsOf_3 1 rfl rfl ?_
  refine r_iload_n C eX11_oddsOf_4 2 rfl rfl ?_
  obtain ⟨r1, hr1, hf⟩ := zbind hf
  refine r_V_l (ws' := W_Mo (z_g x) a0 o0 (gMo_ints v0) (gMo_told v0) (gMo_postX v0) (gMo_postStrong v0) (gMo_atRow v0) (gMo_heights v0) (gMo_ship v0) (gMo_lines v0) (gMo_text v0) (gMo_said v0) (gMo_readTold v0) (gMo_readX v0) (gMo_readStrong v0) (gMo_readRow v0) (gMo_parting v0) (gMo_wasShip v0) (gMo_wasLines v0) (gMo_worst v0) (gMo_logRow v0) (gMo_images v0) (gMo_isKept v0)) C (c_Mo_distance (z_l x) (z_g x) a0 o0 v0 p1 p2 r1 hr1) eX11_oddsOf_5 MX11_230 ⟨0, 11, _, _, rfl, rfl, rfl⟩ [0, 1, 2, 3, 4, 5, 6, 7, 8, 9, 10, 11, 12, 13, 14, 15, 16, 17, 18, 19] rfl rfl rfl rfl [] rfl trivial 20 rfl rfl rfl rfl rfl rfl ?_
  refine r_ldc2 C (v := 50) eX11_oddsOf_8 q1428 ?_
  refine r_ldiv C eX11_oddsOf_11 (by decide) ?_
  refine r_l2i C eX11_oddsOf_12 ?_
  refine r_isub C eX11_oddsOf_13 ?_
  obtain ⟨z2, hz2, hf⟩ := zlet_of hf
  refine r_nami hz2 ?_
  refine r_istore_n C [(3, .int z2), (0, .ref (a0 o0)), (1, .int p1), (2, .int p2)] eX11_oddsOf_14 rfl (by decide) rfl ?_
  refine r_iload_n C eX11_oddsOf_15 0 rfl rfl ?_
  refine r_if_ge C eX11_oddsOf_16 (fun c3 => ?_) (fun c3 => ?_)
  · rw [if_pos c3] at hf
    refine r_iload_n C eX11_oddsOf_23 0 rfl rfl ?_
    obtain rfl := Option.some.inj (show some (z2 : Int32) = some _ from hf)
    exact hret _ _ _ eX11_oddsOf_24
  · rw [if_neg c3] at hf
    refine r_iconst C (v := 0) eX11_oddsOf_19 (by decide) ?_
    refine r_goto C eX11_oddsOf_20 ?_
    obtain rfl := Option.some.inj (show some (0 : Int32) = some _ from hf)
    exact hret _ _ _ eX11_oddsOf_24
theorem eX11_heave_0 : zd 1 cX11_heave 0 1 (.iload_n 1) := ⟨by decide +kernel, rfl⟩
theorem eX11_heave_1 : zd 1 cX11_heave 1 2 (.i2l) := ⟨by decide +kernel, rfl⟩
theorem eX11_heave_2 : zd 1 cX11_heave 2 3 (.lconst 0) := ⟨by decide +kernel, rfl⟩
theorem eX11_heave_3 : zd 3 cX11_heave 3 6 (.ldc2_w 228) := ⟨by decide +kernel, rfl⟩
theorem eX11_heave_6 : zd 3 cX11_heave 6 9 (.invokestatic 86) := ⟨by decide +kernel, rfl⟩
theorem eX11_heave_9 : zdi cX11_heave 9 12 20 (.ifCond .eq) := ⟨11, by decide +kernel, rfl, by decide⟩
theorem eX11_heave_12 : zd 1 cX11_heave 12 13 (.aload_n 0) := ⟨by decide +kernel, rfl⟩
theorem eX11_heave_13 : zd 1 cX11_heave 13 14 (.iload_n 3) := ⟨by decide +kernel, rfl⟩
theorem eX11_heave_14 : zd 3 cX11_heave 14 17 (.invokevirtual 198) := ⟨by decide +kernel, rfl⟩
theorem eX11_heave_17 : zdi cX11_heave 17 20 23 (.ifCond .ne) := ⟨6, by decide +kernel, rfl, by decide⟩
theorem eX11_heave_20 : zd 2 cX11_heave 20 22 (.ldc 202) := ⟨by decide +kernel, rfl⟩
theorem eX11_heave_22 : zd 1 cX11_heave 22 23 (.ireturn) := ⟨by decide +kernel, rfl⟩
theorem eX11_heave_23 : zd 1 cX11_heave 23 24 (.iload_n 2) := ⟨by decide +kernel, rfl⟩
theorem eX11_heave_24 : zd 3 cX11_heave 24 27 (.invokestatic 323) := ⟨by decide +kernel, rfl⟩
theorem eX11_heave_27 : zdi cX11_heave 27 30 33 (.ifCond .ne) := ⟨6, by decide +kernel, rfl, by decide⟩
theorem eX11_heave_30 : zd 2 cX11_heave 30 32 (.ldc 90) := ⟨by decide +kernel, rfl⟩
theorem eX11_heave_32 : zd 1 cX11_heave 32 33 (.ireturn) := ⟨by decide +kernel, rfl⟩
theorem eX11_heave_33 : zd 1 cX11_heave 33 34 (.aload_n 0) := ⟨by decide +kernel, rfl⟩
theorem eX11_heave_34 : zd 1 cX11_heave 34 35 (.iload_n 1) := ⟨by decide +kernel, rfl⟩
theorem eX11_heave_35 : zd 3 cX11_heave 35 38 (.invokevirtual 243) := ⟨by decide +kernel, rfl⟩
theorem eX11_heave_38 : zdi cX11_heave 38 41 45 (.ifCond .eq) := ⟨7, by decide +kernel, rfl, by decide⟩
theorem eX11_heave_41 : zd 3 cX11_heave 41 44 (.ldc_w 326) := ⟨by decide +kernel, rfl⟩
theorem eX11_heave_44 : zd 1 cX11_heave 44 45 (.ireturn) := ⟨by decide +kernel, rfl⟩
theorem eX11_heave_45 : zd 1 cX11_heave 45 46 (.aload_n 0) := ⟨by decide +kernel, rfl⟩
theorem eX11_heave_46 : zd 2 cX11_heave 46 48 (.bipush 100) := ⟨by decide +kernel, rfl⟩
theorem eX11_heave_48 : zd 3 cX11_heave 48 51 (.invokevirtual 343) := ⟨by decide +kernel, rfl⟩
theorem eX11_heave_51 : zd 1 cX11_heave 51 52 (.aload_n 0) := ⟨by decide +kernel, rfl⟩
theorem eX11_heave_52 : zd 1 cX11_heave 52 53 (.iload_n 2) := ⟨by decide +kernel, rfl⟩
theorem eX11_heave_53 : zd 1 cX11_heave 53 54 (.iload_n 3) := ⟨by decide +kernel, rfl⟩
theorem eX11_heave_54 : zd 3 cX11_heave 54 57 (.invokevirtual 346) := ⟨by decide +kernel, rfl⟩
theorem eX11_heave_57 : zdi cX11_heave 57 60 76 (.if_icmp .ge) := ⟨19, by decide +kernel, rfl, by decide⟩
theorem eX11_heave_60 : zd 1 cX11_heave 60 61 (.aload_n 0) := ⟨by decide +kernel, rfl⟩
theorem eX11_heave_61 : zd 1 cX11_heave 61 62 (.iload_n 1) := ⟨by decide +kernel, rfl⟩
theorem eX11_heave_62 : zd 1 cX11_heave 62 63 (.iload_n 2) := ⟨by decide +kernel, rfl⟩
theorem eX11_heave_63 : zd 1 cX11_heave 63 64 (.iload_n 3) := ⟨by decide +kernel, rfl⟩
theorem eX11_heave_64 : zd 1 cX11_heave 64 65 (.aload_n 0) := ⟨by decide +kernel, rfl⟩
theorem eX11_heave_65 : zd 1 cX11_heave 65 66 (.iload_n 2) := ⟨by decide +kernel, rfl⟩
theorem eX11_heave_66 : zd 1 cX11_heave 66 67 (.iload_n 3) := ⟨by decide +kernel, rfl⟩
theorem eX11_heave_67 : zd 3 cX11_heave 67 70 (.invokevirtual 230) := ⟨by decide +kernel, rfl⟩
theorem eX11_heave_70 : zd 1 cX11_heave 70 71 (.l2i) := ⟨by decide +kernel, rfl⟩
theorem eX11_heave_71 : zd 3 cX11_heave 71 74 (.invokevirtual 327) := ⟨by decide +kernel, rfl⟩
theorem eX11_heave_74 : zd 1 cX11_heave 74 75 (.iconst 1) := ⟨by decide +kernel, rfl⟩
theorem eX11_heave_75 : zd 1 cX11_heave 75 76 (.ireturn) := ⟨by decide +kernel, rfl⟩
theorem eX11_heave_76 : zd 1 cX11_heave 76 77 (.aload_n 0) := ⟨by decide +kernel, rfl⟩
theorem eX11_heave_77 : zd 3 cX11_heave 77 80 (.getfield 25) := ⟨by decide +kernel, rfl⟩
theorem eX11_heave_80 : zd 2 cX11_heave 80 82 (.bipush 12) := ⟨by decide +kernel, rfl⟩
theorem eX11_heave_82 : zd 1 cX11_heave 82 83 (.dup2) := ⟨by decide +kernel, rfl⟩
theorem eX11_heave_83 : zd 1 cX11_heave 83 84 (.laload) := ⟨by decide +kernel, rfl⟩
theorem eX11_heave_84 : zd 1 cX11_heave 84 85 (.lconst 1) := ⟨by decide +kernel, rfl⟩
theorem eX11_heave_85 : zd 1 cX11_heave 85 86 (.ladd) := ⟨by decide +kernel, rfl⟩
theorem eX11_heave_86 : zd 1 cX11_heave 86 87 (.lastore) := ⟨by decide +kernel, rfl⟩
theorem eX11_heave_87 : zd 1 cX11_heave 87 88 (.iconst 0) := ⟨by decide +kernel, rfl⟩
theorem eX11_heave_88 : zd 1 cX11_heave 88 89 (.ireturn) := ⟨by decide +kernel, rfl⟩
theorem MX11_343 : zlV RX11 343 yX11_draw cX11_draw 2 ((Option.some FieldType.int)) 1 := ⟨q1416, q1418, qs56, q12, q1419, by decide, by decide, by decide +kernel⟩
theorem MX11_346 : zlV RX11 346 yX11_oddsOf cX11_oddsOf 4 ((Option.some FieldType.int)) 2 := ⟨q1424, q1426, qs57, q12, q1427, by decide, by decide, by decide +kernel⟩
noncomputable def f_Mo_heave (v0 : tMo) (p1 : Int32) (p2 : Int32) (p3 : Int32) : Option (Int32 × (Nat → Int32) × (Nat → Int64) × (Nat → Int32)) := (if (f_Mo_in p1.toInt64 0 5) = 0 then (some ((-1000000001), (gMo_ints v0), (gMo_ship v0), (gMo_lines v0))) else (if (f_Mo_isPost v0 p3) = 0 then (some ((-1000000001), (gMo_ints v0), (gMo_ship v0), (gMo_lines v0))) else (if (f_Mo_isPlace p2) = 0 then (some ((-1000000002), (gMo_ints v0), (gMo_ship v0), (gMo_lines v0))) else (Option.bind (f_Mo_isFast v0 p1) (fun (r7 : Int32) => (if r7 = 0 then (Option.bind (f_Mo_draw v0 100) (fun (r10 : Int32 × (Nat → Int32)) => (Option.bind (f_Mo_oddsOf ((r10.2), (gMo_told v0), (gMo_postX v0), (gMo_postStrong v0), (gMo_atRow v0), (gMo_heights v0), (gMo_ship v0), (gMo_lines v0), (gMo_text v0), (gMo_said v0), (gMo_readTold v0), (gMo_readX v0), (gMo_readStrong v0), (gMo_readRow v0), (gMo_parting v0), (gMo_wasShip v0), (gMo_wasLines v0), (gMo_worst v0), (gMo_logRow v0), (gMo_images v0), (gMo_isKept v0)) p2 p3) (fun (r11 : Int32) => (if r11 ≤ (r10.1) then (zlet (((gMo_ship v0) 12) + 1) (fun (z13 : Int64) => (some (0, (r10.2), (vp_updL (gMo_ship v0) 12 z13), (gMo_lines v0))))) else (Option.bind (f_Mo_distance ((r10.2), (gMo_told v0), (gMo_postX v0), (gMo_postStrong v0), (gMo_atRow v0), (gMo_heights v0), (gMo_ship v0), (gMo_lines v0), (gMo_text v0), (gMo_said v0), (gMo_readTold v0), (gMo_readX v0), (gMo_readStrong v0), (gMo_readRow v0), (gMo_parting v0), (gMo_wasShip v0), (gMo_wasLines v0), (gMo_worst v0), (gMo_logRow v0), (gMo_images v0), (gMo_isKept v0)) p2 p3) (fun (r14 : Int64) => (Option.bind (f_Mo_tie ((r10.2), (gMo_told v0), (gMo_postX v0), (gMo_postStrong v0), (gMo_atRow v0), (gMo_heights v0), (gMo_ship v0), (gMo_lines v0), (gMo_text v0), (gMo_said v0), (gMo_readTold v0), (gMo_readX v0), (gMo_readStrong v0), (gMo_readRow v0), (gMo_parting v0), (gMo_wasShip v0), (gMo_wasLines v0), (gMo_worst v0), (gMo_logRow v0), (gMo_images v0), (gMo_isKept v0)) p1 p2 p3 r14.toInt32) (fun (r15 : (Nat → Int32)) => (some (1, (r10.2), (gMo_ship v0), r15))))))))))) else (some ((-1000000003), (gMo_ints v0), (gMo_ship v0), (gMo_lines v0)))))))))
abbrev rm_Mo_heave : Room := { frames := 5, cells := 0, slots := 0, locals := 114 }
set_option maxHeartbeats 4000000 in
set_option maxRecDepth 100000 in
theorem c_Mo_heave (l : Launch) (g : zGl) (a0 : Nat → Nat) (o0 : Nat) (v0 : tMo) (p1 : Int32) (p2 : Int32) (p3 : Int32) (out : Int32 × (Nat → Int32) × (Nat → Int64) × (Nat → Int32)) (hf : f_Mo_heave v0 p1 p2 p3 = some out) : zMi l yX11_heave cX11_heave 4 rm_Mo_heave g [.ref (a0 o0), .int p1, .int p2, .int p3] (W_Mo g a0 o0 (gMo_ints v0) (gMo_told v0) (gMo_postX v0) (gMo_postStrong v0) (gMo_atRow v0) (gMo_heights v0) (gMo_ship v0) (gMo_lines v0) (gMo_text v0) (gMo_said v0) (gMo_readTold v0) (gMo_readX v0) (gMo_readStrong v0) (gMo_readRow v0) (gMo_parting v0) (gMo_wasShip v0) (gMo_wasLines v0) (gMo_worst v0) (gMo_logRow v0) (gMo_images v0) (gMo_isKept v0)) (out.1) (W_Mo g a0 o0 (out.2.1) (gMo_told v0) (gMo_postX v0) (gMo_postStrong v0) (gMo_atRow v0) (gMo_heights v0) (out.2.2.1) (out.2.2.2) (gMo_text v0) (gMo_said v0) (gMo_readTold v0) (gMo_readX v0) (gMo_readStrong v0) (gMo_readRow v0) (gMo_parting v0) (gMo_wasShip v0) (gMo_wasLines v0) (gMo_worst v0) (gMo_logRow v0) (gMo_images v0) (gMo_isKept v0)) := by
  refine zMi_of (lv := [(0, .ref (a0 o0)), (1, .int p1), (2, .int p2), (3, .int p3)]) (by decide) (Nat.le_of_ble_eq_true rfl) rfl (fun x hl hg C hret => ?_)
  subst hl; subst hg
  rw [f_Mo_heave] at hf
  refine r_iload_n C eX11_heave_0 1 rfl rfl ?_
  refine r_i2l C eX11_heave_1 ?_
  refine r_lconst C (v := 0) eX11_heave_2 (by decide) ?_
  refine r_ldc2 C (v := 5) eX11_heave_3 q1352 ?_
  refine r_S_z (ws' := W_Mo (z_g x) a0 o0 (gMo_ints v0) (gMo_told v0) (gMo_postX v0) (gMo_postStrong v0) (gMo_atRow v0) (gMo_heights v0) (gMo_ship v0) (gMo_lines v0) (gMo_text v0) (gMo_said v0) (gMo_readTold v0) (gMo_readX v0) (gMo_readStrong v0) (gMo_readRow v0) (gMo_parting v0) (gMo_wasShip v0) (gMo_wasLines v0) (gMo_worst v0) (gMo_logRow v0) (gMo_images v0) (gMo_isKept v0)) C (c_Mo_in (z_l x) (z_g x)  p1.toInt64 0 5 _ rfl) eX11_heave_6 MX11_86 [] rfl rfl rfl rfl [0, 1, 2, 3, 4, 5, 6, 7, 8, 9, 10, 11, 12, 13, 14, 15, 16, 17, 18, 19] rfl ⟨rfl, rfl, rfl, rfl, rfl, rfl, rfl, rfl, rfl, rfl, rfl, rfl, rfl, rfl, rfl, rfl, rfl, rfl, rfl, rfl, trivial⟩ 20 rfl rfl rfl rfl rfl rfl (fun zb1 => ?_)
  refine r_if_eq C eX11_heave_9 (fun c2 => ?_) (fun c2 => ?_)
  · rw [if_pos c2] at hf
    refine r_ldc C (v := (-1000000001)) eX11_heave_20 q1276 ?_
    obtain rfl := Option.some.inj (show some (((-1000000001), (gMo_ints v0), (gMo_ship v0), (gMo_lines v0)) : Int32 × (Nat → Int32) × (Nat → Int64) × (Nat → Int32)) = some _ from hf)
    exact hret _ _ _ eX11_heave_22
  · rw [if_neg c2] at hf
    refine r_aload_n C eX11_heave_12 0 rfl rfl ?_
    refine r_iload_n C eX11_heave_13 3 rfl rfl ?_
    refine r_V_z (ws' := W_Mo (z_g x) a0 o0 (gMo_ints v0) (gMo_told v0) (gMo_postX v0) (gMo_postStrong v0) (gMo_atRow v0) (gMo_heights v0) (gMo_ship v0) (gMo_lines v0) (gMo_text v0) (gMo_said v0) (gMo_readTold v0) (gMo_readX v0) (gMo_readStrong v0) (gMo_readRow v0) (gMo_parting v0) (gMo_wasShip v0) (gMo_wasLines v0) (gMo_worst v0) (gMo_logRow v0) (gMo_images v0) (gMo_isKept v0)) C (c_Mo_isPost (z_l x) (z_g x) a0 o0 v0 p3 _ rfl) eX11_heave_14 MX11_198 ⟨0, 11, _, _, rfl, rfl, rfl⟩ [0, 1, 2, 3, 4, 5, 6, 7, 8, 9, 10, 11, 12, 13, 14, 15, 16, 17, 18, 19] rfl rfl rfl rfl [] rfl trivial 20 rfl rfl rfl rfl rfl rfl (fun zb3 => ?_)
    refine r_if_ne C eX11_heave_17 (fun c4 => ?_) (fun c4 => ?_)
    · rw [if_neg c4] at hf
      refine r_iload_n C eX11_heave_23 2 rfl rfl ?_
      refine r_S_z (ws' := W_Mo (z_g x) a0 o0 (gMo_ints v0) (gMo_told v0) (gMo_postX v0) (gMo_postStrong v0) (gMo_atRow v0) (gMo_heights v0) (gMo_ship v0) (gMo_lines v0) (gMo_text v0) (gMo_said v0) (gMo_readTold v0) (gMo_readX v0) (gMo_readStrong v0) (gMo_readRow v0) (gMo_parting v0) (gMo_wasShip v0) (gMo_wasLines v0) (gMo_worst v0) (gMo_logRow v0) (gMo_images v0) (gMo_isKept v0)) C (c_Mo_isPlace (z_l x) (z_g x)  p2 _ rfl) eX11_heave_24 MX11_323 [] rfl rfl rfl rfl [0, 1, 2, 3, 4, 5, 6, 7, 8, 9, 10, 11, 12, 13, 14, 15, 16, 17, 18, 19] rfl ⟨rfl, rfl, rfl, rfl, rfl, rfl, rfl, rfl, rfl, rfl, rfl, rfl, rfl, rfl, rfl, rfl, rfl, rfl, rfl, rfl, trivial⟩ 20 rfl rfl rfl rfl rfl rfl (fun zb5 => ?_)
      refine r_if_ne C eX11_heave_27 (fun c6 => ?_) (fun c6 => ?_)
      · rw [if_neg c6] at hf
        refine r_aload_n C eX11_heave_33 0 rfl rfl ?_
        refine r_iload_n C eX11_heave_34 1 rfl rfl ?_
        obtain ⟨r7, hr7, hf⟩ := zbind hf
        refine r_V_z (ws' := W_Mo (z_g x) a0 o0 (gMo_ints v0) (gMo_told v0) (gMo_postX v0) (gMo_postStrong v0) (gMo_atRow v0) (gMo_heights v0) (gMo_ship v0) (gMo_lines v0) (gMo_text v0) (gMo_said v0) (gMo_readTold v0) (gMo_readX v0) (gMo_readStrong v0) (gMo_readRow v0) (gMo_parting v0) (gMo_wasShip v0) (gMo_wasLines v0) (gMo_worst v0) (gMo_logRow v0) (gMo_images v0) (gMo_isKept v0)) C (c_Mo_isFast (z_l x) (z_g x) a0 o0 v0 p1 r7 hr7) eX11_heave_35 MX11_243 ⟨0, 11, _, _, rfl, rfl, rfl⟩ [0, 1, 2, 3, 4, 5, 6, 7, 8, 9, 10, 11, 12, 13, 14, 15, 16, 17, 18, 19] rfl rfl rfl rfl [] rfl trivial 20 rfl rfl rfl rfl rfl rfl (fun zb8 => ?_)
        refine r_if_eq C eX11_heave_38 (fun c9 => ?_) (fun c9 => ?_)
        · rw [if_pos c9] at hf
          refine r_aload_n C eX11_heave_45 0 rfl rfl ?_
          refine r_bipush C (v := 100) eX11_heave_46 (by decide) ?_
          obtain ⟨r10, hr10, hf⟩ := zbind hf
          refine r_V_i (ws' := W_Mo (z_g x) a0 o0 (r10.2) (gMo_told v0) (gMo_postX v0) (gMo_postStrong v0) (gMo_atRow v0) (gMo_heights v0) (gMo_ship v0) (gMo_lines v0) (gMo_text v0) (gMo_said v0) (gMo_readTold v0) (gMo_readX v0) (gMo_readStrong v0) (gMo_readRow v0) (gMo_parting v0) (gMo_wasShip v0) (gMo_wasLines v0) (gMo_worst v0) (gMo_logRow v0) (gMo_images v0) (gMo_isKept v0)) C (c_Mo_draw (z_l x) (z_g x) a0 o0 v0 100 r10 hr10) eX11_heave_48 MX11_343 ⟨0, 11, _, _, rfl, rfl, rfl⟩ [0, 1, 2, 3, 4, 5, 6, 7, 8, 9, 10, 11, 12, 13, 14, 15, 16, 17, 18, 19] rfl rfl rfl rfl [] rfl trivial 20 rfl rfl rfl rfl rfl rfl ?_
          refine r_aload_n C eX11_heave_51 0 rfl rfl ?_
          refine r_iload_n C eX11_heave_52 2 rfl rfl ?_
          refine r_iload_n C eX11_heave_53 3 rfl rfl ?_
          obtain ⟨r11, hr11, hf⟩ := zbind hf
          refine r_V_i (ws' := W_Mo (z_g x) a0 o0 (r10.2) (gMo_told v0) (gMo_postX v0) (gMo_postStrong v0) (gMo_atRow v0) (gMo_heights v0) (gMo_ship v0) (gMo_lines v0) (gMo_text v0) (gMo_said v0) (gMo_readTold v0) (gMo_readX v0) (gMo_readStrong v0) (gMo_readRow v0) (gMo_parting v0) (gMo_wasShip v0) (gMo_wasLines v0) (gMo_worst v0) (gMo_logRow v0) (gMo_images v0) (gMo_isKept v0)) C (c_Mo_oddsOf (z_l x) (z_g x) a0 o0 ((r10.2), (gMo_told v0), (gMo_postX v0), (gMo_postStrong v0), (gMo_atRow v0), (gMo_heights v0), (gMo_ship v0), (gMo_lines v0), (gMo_text v0), (gMo_said v0), (gMo_readTold v0), (gMo_readX v0), (gMo_readStrong v0), (gMo_readRow v0), (gMo_parting v0), (gMo_wasShip v0), (gMo_wasLines v0), (gMo_worst v0), (gMo_logRow v0), (gMo_images v0), (gMo_isKept v0)) p2 p3 r11 hr11) eX11_heave_54 MX11_346 ⟨0, 11, _, _, rfl, rfl, rfl⟩ [0, 1, 2, 3, 4, 5, 6, 7, 8, 9, 10, 11, 12, 13, 14, 15, 16, 17, 18, 19] rfl rfl rfl rfl [] rfl trivial 20 rfl rfl rfl rfl rfl rfl ?_
          refine r_icmp_ge C eX11_heave_57 (fun c12 => ?_) (fun c12 => ?_)
          · rw [if_pos c12] at hf
            refine r_aload_n C eX11_heave_76 0 rfl rfl ?_
            refine r_get (v := .ref (a0 (o0 + 6))) C eX11_heave_77 FX11_25 0 rfl rfl ?_
            refine r_bipush C (v := 12) eX11_heave_80 (by decide) ?_
            refine r_dup2 C eX11_heave_82 rfl rfl ?_
            refine r_laldN C eX11_heave_83 6 12 (by decide) rfl ((gMo_ship v0) 12) rfl ?_
            refine r_lconst C (v := 1) eX11_heave_84 (by decide) ?_
            refine r_ladd C eX11_heave_85 ?_
            obtain ⟨z13, hz13, hf⟩ := zlet_of hf
            refine r_naml hz13 ?_
            refine r_lastN (ws' := W_Mo (z_g x) a0 o0 (r10.2) (gMo_told v0) (gMo_postX v0) (gMo_postStrong v0) (gMo_atRow v0) (gMo_heights v0) (vp_updL (gMo_ship v0) 12 z13) (gMo_lines v0) (gMo_text v0) (gMo_said v0) (gMo_readTold v0) (gMo_readX v0) (gMo_readStrong v0) (gMo_readRow v0) (gMo_parting v0) (gMo_wasShip v0) (gMo_wasLines v0) (gMo_worst v0) (gMo_logRow v0) (gMo_images v0) (gMo_isKept v0)) C eX11_heave_86 6 12 (by decide) rfl rfl ?_
            refine r_iconst C (v := 0) eX11_heave_87 (by decide) ?_
            obtain rfl := Option.some.inj (show some ((0, (r10.2), (vp_updL (gMo_ship v0) 12 z13), (gMo_lines v0)) : Int32 × (Nat → Int32) × (Nat → Int64) × (Nat → Int32)) = some _ from hf)
            exact hret _ _ _ eX11_heave_88
          · rw [if_neg c12] at hf
            refine r_aload_n C eX11_heave_60 0 rfl rfl ?_
            refine r_iload_n C eX11_heave_61 1 rfl rfl ?_
            refine r_iload_n C eX11_heave_62 2 rfl rfl ?_
            refine r_iload_n C eX11_heave_63 3 rfl rfl ?_
            refine r_aload_n C eX11_heave_64 0 rfl rfl ?_
            refine r_iload_n C eX11_heave_65 2 rfl rfl ?_
            refine r_iload_n C eX11_heave_66 3 rfl rfl ?_
            obtain ⟨r14, hr14, hf⟩ := zbind hf
            refine r_V_l (ws' := W_Mo (z_g x) a0 o0 (r10.2) (gMo_told v0) (gMo_postX v0) (gMo_postStrong v0) (gMo_atRow v0) (gMo_heights v0) (gMo_ship v0) (gMo_lines v0) (gMo_text v0) (gMo_said v0) (gMo_readTold v0) (gMo_readX v0) (gMo_readStrong v0) (gMo_readRow v0) (gMo_parting v0) (gMo_wasShip v0) (gMo_wasLines v0) (gMo_worst v0) (gMo_logRow v0) (gMo_images v0) (gMo_isKept v0)) C (c_Mo_distance (z_l x) (z_g x) a0 o0 ((r10.2), (gMo_told v0), (gMo_postX v0), (gMo_postStrong v0), (gMo_atRow v0), (gMo_heights v0), (gMo_ship v0), (gMo_lines v0), (gMo_text v0), (gMo_said v0), (gMo_readTold v0), (gMo_readX v0), (gMo_readStrong v0), (gMo_readRow v0), (gMo_parting v0), (gMo_wasShip v0), (gMo_wasLines v0), (gMo_worst v0), (gMo_logRow v0), (gMo_images v0), (gMo_isKept v0)) p2 p3 r14 hr14) eX11_heave_67 MX11_230 ⟨0, 11, _, _, rfl, rfl, rfl⟩ [0, 1, 2, 3, 4, 5, 6, 7, 8, 9, 10, 11, 12, 13, 14, 15, 16, 17, 18, 19] rfl rfl rfl rfl [] rfl trivial 20 rfl rfl rfl rfl rfl rfl ?_
            refine r_l2i C eX11_heave_70 ?_
            obtain ⟨r15, hr15, hf⟩ := zbind hf
            refine r_V_v (ws' := W_Mo (z_g x) a0 o0 (r10.2) (gMo_told v0) (gMo_postX v0) (gMo_postStrong v0) (gMo_atRow v0) (gMo_heights v0) (gMo_ship v0) r15 (gMo_text v0) (gMo_said v0) (gMo_readTold v0) (gMo_readX v0) (gMo_readStrong v0) (gMo_readRow v0) (gMo_parting v0) (gMo_wasShip v0) (gMo_wasLines v0) (gMo_worst v0) (gMo_logRow v0) (gMo_images v0) (gMo_isKept v0)) C (c_Mo_tie (z_l x) (z_g x) a0 o0 ((r10.2), (gMo_told v0), (gMo_postX v0), (gMo_postStrong v0), (gMo_atRow v0), (gMo_heights v0), (gMo_ship v0), (gMo_lines v0), (gMo_text v0), (gMo_said v0), (gMo_readTold v0), (gMo_readX v0), (gMo_readStrong v0), (gMo_readRow v0), (gMo_parting v0), (gMo_wasShip v0), (gMo_wasLines v0), (gMo_worst v0), (gMo_logRow v0), (gMo_images v0), (gMo_isKept v0)) p1 p2 p3 r14.toInt32 r15 hr15) eX11_heave_71 MX11_327 ⟨0, 11, _, _, rfl, rfl, rfl⟩ [0, 1, 2, 3, 4, 5, 6, 7, 8, 9, 10, 11, 12, 13, 14, 15, 16, 17, 18, 19] rfl rfl rfl rfl [] rfl trivial 20 rfl rfl rfl rfl rfl rfl ?_
            refine r_iconst C (v := 1) eX11_heave_74 (by decide) ?_
            obtain rfl := Option.some.inj (show some ((1, (r10.2), (gMo_ship v0), r15) : Int32 × (Nat → Int32) × (Nat → Int64) × (Nat → Int32)) = some _ from hf)
            exact hret _ _ _ eX11_heave_75
        · rw [if_neg c9] at hf
          refine r_ldc_w C (v := (-1000000003)) eX11_heave_41 q1407 ?_
          obtain rfl := Option.some.inj (show some (((-1000000003), (gMo_ints v0), (gMo_ship v0), (gMo_lines v0)) : Int32 × (Nat → Int32) × (Nat → Int64) × (Nat → Int32)) = some _ from hf)
          exact hret _ _ _ eX11_heave_44
      · rw [if_pos c6] at hf
        refine r_ldc C (v := (-1000000002)) eX11_heave_30 q1183 ?_
        obtain rfl := Option.some.inj (show some (((-1000000002), (gMo_ints v0), (gMo_ship v0), (gMo_lines v0)) : Int32 × (Nat → Int32) × (Nat → Int64) × (Nat → Int32)) = some _ from hf)
        exact hret _ _ _ eX11_heave_32
    · rw [if_pos c4] at hf
      refine r_ldc C (v := (-1000000001)) eX11_heave_20 q1276 ?_
      obtain rfl := Option.some.inj (show some (((-1000000001), (gMo_ints v0), (gMo_ship v0), (gMo_lines v0)) : Int32 × (Nat → Int32) × (Nat → Int64) × (Nat → Int32)) = some _ from hf)
      exact hret _ _ _ eX11_heave_22
theorem eX11_here_0 : zd 1 cX11_here 0 1 (.aload_n 0) := ⟨by decide +kernel, rfl⟩
theorem eX11_here_1 : zd 3 cX11_here 1 4 (.getfield 97) := ⟨by decide +kernel, rfl⟩
theorem eX11_here_4 : zd 1 cX11_here 4 5 (.aload_n 0) := ⟨by decide +kernel, rfl⟩
theorem eX11_here_5 : zd 3 cX11_here 5 8 (.getfield 91) := ⟨by decide +kernel, rfl⟩
theorem eX11_here_8 : zdi cX11_here 8 11 38 (.if_icmp .ge) := ⟨30, by decide +kernel, rfl, by decide⟩
theorem eX11_here_11 : zd 1 cX11_here 11 12 (.aload_n 0) := ⟨by decide +kernel, rfl⟩
theorem eX11_here_12 : zd 3 cX11_here 12 15 (.getfield 32) := ⟨by decide +kernel, rfl⟩
theorem eX11_here_15 : zd 1 cX11_here 15 16 (.aload_n 0) := ⟨by decide +kernel, rfl⟩
theorem eX11_here_16 : zd 3 cX11_here 16 19 (.getfield 97) := ⟨by decide +kernel, rfl⟩
theorem eX11_here_19 : zd 1 cX11_here 19 20 (.iaload) := ⟨by decide +kernel, rfl⟩
theorem eX11_here_20 : zd 2 cX11_here 20 22 (.bipush 32) := ⟨by decide +kernel, rfl⟩
theorem eX11_here_22 : zdi cX11_here 22 25 38 (.if_icmp .ne) := ⟨16, by decide +kernel, rfl, by decide⟩
theorem eX11_here_25 : zd 1 cX11_here 25 26 (.aload_n 0) := ⟨by decide +kernel, rfl⟩
theorem eX11_here_26 : zd 1 cX11_here 26 27 (.dup) := ⟨by decide +kernel, rfl⟩
theorem eX11_here_27 : zd 3 cX11_here 27 30 (.getfield 97) := ⟨by decide +kernel, rfl⟩
theorem eX11_here_30 : zd 1 cX11_here 30 31 (.iconst 1) := ⟨by decide +kernel, rfl⟩
theorem eX11_here_31 : zd 1 cX11_here 31 32 (.iadd) := ⟨by decide +kernel, rfl⟩
theorem eX11_here_32 : zd 3 cX11_here 32 35 (.putfield 97) := ⟨by decide +kernel, rfl⟩
theorem eX11_here_35 : zdi cX11_here 35 38 0 (.goto) := ⟨(-35), by decide +kernel, rfl, by decide⟩
theorem eX11_here_38 : zd 1 cX11_here 38 39 (.aload_n 0) := ⟨by decide +kernel, rfl⟩
theorem eX11_here_39 : zd 3 cX11_here 39 42 (.getfield 97) := ⟨by decide +kernel, rfl⟩
theorem eX11_here_42 : zd 1 cX11_here 42 43 (.aload_n 0) := ⟨by decide +kernel, rfl⟩
theorem eX11_here_43 : zd 3 cX11_here 43 46 (.getfield 91) := ⟨by decide +kernel, rfl⟩
theorem eX11_here_46 : zdi cX11_here 46 49 61 (.if_icmp .ge) := ⟨15, by decide +kernel, rfl, by decide⟩
theorem eX11_here_49 : zd 1 cX11_here 49 50 (.aload_n 0) := ⟨by decide +kernel, rfl⟩
theorem eX11_here_50 : zd 3 cX11_here 50 53 (.getfield 32) := ⟨by decide +kernel, rfl⟩
theorem eX11_here_53 : zd 1 cX11_here 53 54 (.aload_n 0) := ⟨by decide +kernel, rfl⟩
theorem eX11_here_54 : zd 3 cX11_here 54 57 (.getfield 97) := ⟨by decide +kernel, rfl⟩
theorem eX11_here_57 : zd 1 cX11_here 57 58 (.iaload) := ⟨by decide +kernel, rfl⟩
theorem eX11_here_58 : zdi cX11_here 58 61 62 (.goto) := ⟨4, by decide +kernel, rfl, by decide⟩
theorem eX11_here_61 : zd 1 cX11_here 61 62 (.iconst (-1)) := ⟨by decide +kernel, rfl⟩
theorem eX11_here_62 : zd 1 cX11_here 62 63 (.ireturn) := ⟨by decide +kernel, rfl⟩
theorem FX11_97 : zlF RX11 97 11 13 := ⟨(RX11, TX11, 34), rfl, by decide, q1084, zin11⟩
theorem PX11_97 : zlP RX11 97 11 13 .int := ⟨(RX11, TX11, 34), tyX11, rfl, by decide, q1084, zin11, tyX11_ok, nmX11, rfl, by decide +kernel⟩
noncomputable def fB_Mo_here_0 (v0 : tMo) (ih : ((Nat → Int32)) → Option ((Nat → Int32))) (s1 : (Nat → Int32)) : Option ((Nat → Int32)) := (if (s1 11) ≤ (s1 13) then (some s1) else (if inb (s1 13) 300 = true then (if ((gMo_text v0) (ix (s1 13))) = 32 then (zlet ((s1 13) + 1) (fun (z9 : Int32) => (ih (upd s1 13 z9)))) else (some s1)) else none))
noncomputable def f_Mo_here (v0 : tMo)  : Option (Int32 × (Nat → Int32)) := (Option.bind (lp (fB_Mo_here_0 v0) LF (gMo_ints v0)) (fun (q2 : (Nat → Int32)) => (if (q2 11) ≤ (q2 13) then (some ((-1), q2)) else (if inb (q2 13) 300 = true then (some (((gMo_text v0) (ix (q2 13))), q2)) else none))))
abbrev rm_Mo_here : Room := { frames := 0, cells := 0, slots := 0, locals := 0 }
set_option maxHeartbeats 4000000 in
set_option maxRecDepth 100000 in
theorem c_Mo_here (l : Launch) (g : zGl) (a0 : Nat → Nat) (o0 : Nat) (v0 : tMo)  (out : Int32 × (Nat → Int32)) (hf : f_Mo_here v0 = some out) : zMi l yX11_here cX11_here 1 rm_Mo_here g [.ref (a0 o0)] (W_Mo g a0 o0 (gMo_ints v0) (gMo_told v0) (gMo_postX v0) (gMo_postStrong v0) (gMo_atRow v0) (gMo_heights v0) (gMo_ship v0) (gMo_lines v0) (gMo_text v0) (gMo_said v0) (gMo_readTold v0) (gMo_readX v0) (gMo_readStrong v0) (gMo_readRow v0) (gMo_parting v0) (gMo_wasShip v0) (gMo_wasLines v0) (gMo_worst v0) (gMo_logRow v0) (gMo_images v0) (gMo_isKept v0)) (out.1) (W_Mo g a0 o0 (out.2) (gMo_told v0) (gMo_postX v0) (gMo_postStrong v0) (gMo_atRow v0) (gMo_heights v0) (gMo_ship v0) (gMo_lines v0) (gMo_text v0) (gMo_said v0) (gMo_readTold v0) (gMo_readX v0) (gMo_readStrong v0) (gMo_readRow v0) (gMo_parting v0) (gMo_wasShip v0) (gMo_wasLines v0) (gMo_worst v0) (gMo_logRow v0) (gMo_images v0) (gMo_isKept v0)) := by
  refine zMi_of (lv := [(0, .ref (a0 o0))]) (by decide) (Nat.le_of_ble_eq_true rfl) rfl (fun x hl hg C hret => ?_)
  subst hl; subst hg
  rw [f_Mo_here] at hf
  obtain ⟨q2, h3, hf⟩ := zbind hf
  have J4 : vV x 1 0 0 (W_Mo (z_g x) a0 o0 q2 (gMo_told v0) (gMo_postX v0) (gMo_postStrong v0) (gMo_atRow v0) (gMo_heights v0) (gMo_ship v0) (gMo_lines v0) (gMo_text v0) (gMo_said v0) (gMo_readTold v0) (gMo_readX v0) (gMo_readStrong v0) (gMo_readRow v0) (gMo_parting v0) (gMo_wasShip v0) (gMo_wasLines v0) (gMo_worst v0) (gMo_logRow v0) (gMo_images v0) (gMo_isKept v0)) 38 [(0, .ref (a0 o0))] [] := by
    refine r_aload_n C eX11_here_38 0 rfl rfl ?_
    refine r_get (v := .int (q2 13)) C eX11_here_39 FX11_97 0 rfl rfl ?_
    refine r_aload_n C eX11_here_42 0 rfl rfl ?_
    refine r_get (v := .int (q2 11)) C eX11_here_43 FX11_91 0 rfl rfl ?_
    refine r_icmp_ge C eX11_here_46 (fun c10 => ?_) (fun c10 => ?_)
    · rw [if_pos c10] at hf
      refine r_iconst C (v := (-1)) eX11_here_61 (by decide) ?_
      obtain rfl := Option.some.inj (show some (((-1), q2) : Int32 × (Nat → Int32)) = some _ from hf)
      exact hret _ _ _ eX11_here_62
    · rw [if_neg c10] at hf
      refine r_aload_n C eX11_here_49 0 rfl rfl ?_
      refine r_get (v := .ref (a0 (o0 + 8))) C eX11_here_50 FX11_32 0 rfl rfl ?_
      refine r_aload_n C eX11_here_53 0 rfl rfl ?_
      refine r_get (v := .int (q2 13)) C eX11_here_54 FX11_97 0 rfl rfl ?_
      obtain ⟨hb11, hf⟩ := zchk hf
      refine r_iald C eX11_here_57 8 rfl (inb_in hb11) ((gMo_text v0) (ix (q2 13))) rfl ?_
      refine r_goto C eX11_here_58 ?_
      obtain rfl := Option.some.inj (show some ((((gMo_text v0) (ix (q2 13))), q2) : Int32 × (Nat → Int32)) = some _ from hf)
      exact hret _ _ _ eX11_here_62
  have L5 : ∀ (nL5 : Nat) (s1 : (Nat → Int32)), lp (fB_Mo_here_0 v0) nL5 s1 = some q2 → vV x 1 0 0 (W_Mo (z_g x) a0 o0 s1 (gMo_told v0) (gMo_postX v0) (gMo_postStrong v0) (gMo_atRow v0) (gMo_heights v0) (gMo_ship v0) (gMo_lines v0) (gMo_text v0) (gMo_said v0) (gMo_readTold v0) (gMo_readX v0) (gMo_readStrong v0) (gMo_readRow v0) (gMo_parting v0) (gMo_wasShip v0) (gMo_wasLines v0) (gMo_worst v0) (gMo_logRow v0) (gMo_images v0) (gMo_isKept v0)) 0 [(0, .ref (a0 o0))] [] := by
    intro nL5
    induction nL5 with
    | zero => intro s1 hq; cases hq
    | succ nL5 ihL5 =>
      intro s1 hbL5
      rw [lp_succ, fB_Mo_here_0] at hbL5
      refine r_aload_n C eX11_here_0 0 rfl rfl ?_
      refine r_get (v := .int (s1 13)) C eX11_here_1 FX11_97 0 rfl rfl ?_
      refine r_aload_n C eX11_here_4 0 rfl rfl ?_
      refine r_get (v := .int (s1 11)) C eX11_here_5 FX11_91 0 rfl rfl ?_
      refine r_icmp_ge C eX11_here_8 (fun c6 => ?_) (fun c6 => ?_)
      · rw [if_pos c6] at hbL5
        obtain rfl := Option.some.inj hbL5
        exact J4
      · rw [if_neg c6] at hbL5
        refine r_aload_n C eX11_here_11 0 rfl rfl ?_
        refine r_get (v := .ref (a0 (o0 + 8))) C eX11_here_12 FX11_32 0 rfl rfl ?_
        refine r_aload_n C eX11_here_15 0 rfl rfl ?_
        refine r_get (v := .int (s1 13)) C eX11_here_16 FX11_97 0 rfl rfl ?_
        obtain ⟨hb7, hbL5⟩ := zchk hbL5
        refine r_iald C eX11_here_19 8 rfl (inb_in hb7) ((gMo_text v0) (ix (s1 13))) rfl ?_
        refine r_bipush C (v := 32) eX11_here_20 (by decide) ?_
        refine r_icmp_ne C eX11_here_22 (fun c8 => ?_) (fun c8 => ?_)
        · rw [if_neg c8] at hbL5
          obtain rfl := Option.some.inj hbL5
          exact J4
        · rw [if_pos c8] at hbL5
          refine r_aload_n C eX11_here_25 0 rfl rfl ?_
          refine r_dup C eX11_here_26 rfl ?_
          refine r_get (v := .int (s1 13)) C eX11_here_27 FX11_97 0 rfl rfl ?_
          refine r_iconst C (v := 1) eX11_here_30 (by decide) ?_
          refine r_iadd C eX11_here_31 ?_
          obtain ⟨z9, hz9, hbL5⟩ := zlet_of hbL5
          refine r_nami hz9 ?_
          refine r_put (ws' := W_Mo (z_g x) a0 o0 (upd s1 13 z9) (gMo_told v0) (gMo_postX v0) (gMo_postStrong v0) (gMo_atRow v0) (gMo_heights v0) (gMo_ship v0) (gMo_lines v0) (gMo_text v0) (gMo_said v0) (gMo_readTold v0) (gMo_readX v0) (gMo_readStrong v0) (gMo_readRow v0) (gMo_parting v0) (gMo_wasShip v0) (gMo_wasLines v0) (gMo_worst v0) (gMo_logRow v0) (gMo_images v0) (gMo_isKept v0)) C eX11_here_32 PX11_97 0 rfl rfl rfl (Nat.le_of_ble_eq_true rfl) rfl ?_
          refine r_goto C eX11_here_35 ?_
          have hc := ihL5 (upd s1 13 z9) hbL5
          exact hc
  have hc := L5 LF (gMo_ints v0) h3
  exact hc
theorem eX11_isDeck_0 : zd 1 cX11_isDeck 0 1 (.iload_n 0) := ⟨by decide +kernel, rfl⟩
theorem eX11_isDeck_1 : zd 1 cX11_isDeck 1 2 (.i2l) := ⟨by decide +kernel, rfl⟩
theorem eX11_isDeck_2 : zd 1 cX11_isDeck 2 3 (.lconst 0) := ⟨by decide +kernel, rfl⟩
theorem eX11_isDeck_3 : zd 3 cX11_isDeck 3 6 (.ldc2_w 379) := ⟨by decide +kernel, rfl⟩
theorem eX11_isDeck_6 : zd 3 cX11_isDeck 6 9 (.invokestatic 86) := ⟨by decide +kernel, rfl⟩
theorem eX11_isDeck_9 : zd 1 cX11_isDeck 9 10 (.ireturn) := ⟨by decide +kernel, rfl⟩
noncomputable def f_Mo_isDeck  (p1 : Int32) : Int32 := (f_Mo_in p1.toInt64 0 999)
abbrev rm_Mo_isDeck : Room := { frames := 1, cells := 0, slots := 0, locals := 25 }
set_option maxHeartbeats 4000000 in
set_option maxRecDepth 100000 in
theorem c_Mo_isDeck (l : Launch) (g : zGl)  (p1 : Int32) (out : Int32) (hf : f_Mo_isDeck p1 = out) : zMz l yX11_isDeck cX11_isDeck 1 rm_Mo_isDeck g [.int p1] ([]) out ([]) := by
  refine zMz_of (lv := [(0, .int p1)]) (by decide) (Nat.le_of_ble_eq_true rfl) rfl (fun x hl hg C hret => ?_)
  subst hl; subst hg
  rw [f_Mo_isDeck] at hf
  refine r_iload_n C eX11_isDeck_0 0 rfl rfl ?_
  refine r_i2l C eX11_isDeck_1 ?_
  refine r_lconst C (v := 0) eX11_isDeck_2 (by decide) ?_
  refine r_ldc2 C (v := 999) eX11_isDeck_3 q1513 ?_
  refine r_S_z (ws' := []) C (c_Mo_in (z_l x) (z_g x)  p1.toInt64 0 999 _ rfl) eX11_isDeck_6 MX11_86 [] rfl rfl rfl rfl [] rfl trivial 0 rfl rfl rfl rfl rfl rfl (fun zb1 => ?_)
  subst hf
  exact hret _ _ _ eX11_isDeck_9 zb1
theorem eX11_isOff_0 : zd 1 cX11_isOff 0 1 (.iconst 0) := ⟨by decide +kernel, rfl⟩
theorem eX11_isOff_1 : zd 1 cX11_isOff 1 2 (.istore_n 2) := ⟨by decide +kernel, rfl⟩
theorem eX11_isOff_2 : zd 1 cX11_isOff 2 3 (.iconst 0) := ⟨by decide +kernel, rfl⟩
theorem eX11_isOff_3 : zd 1 cX11_isOff 3 4 (.istore_n 3) := ⟨by decide +kernel, rfl⟩
theorem eX11_isOff_4 : zd 1 cX11_isOff 4 5 (.iload_n 3) := ⟨by decide +kernel, rfl⟩
theorem eX11_isOff_5 : zd 1 cX11_isOff 5 6 (.iload_n 1) := ⟨by decide +kernel, rfl⟩
theorem eX11_isOff_6 : zd 2 cX11_isOff 6 8 (.bipush 120) := ⟨by decide +kernel, rfl⟩
theorem eX11_isOff_8 : zd 1 cX11_isOff 8 9 (.iadd) := ⟨by decide +kernel, rfl⟩
theorem eX11_isOff_9 : zdi cX11_isOff 9 12 48 (.if_icmp .ge) := ⟨39, by decide +kernel, rfl, by decide⟩
theorem eX11_isOff_12 : zd 1 cX11_isOff 12 13 (.iload_n 3) := ⟨by decide +kernel, rfl⟩
theorem eX11_isOff_13 : zd 1 cX11_isOff 13 14 (.iload_n 1) := ⟨by decide +kernel, rfl⟩
theorem eX11_isOff_14 : zdi cX11_isOff 14 17 35 (.if_icmp .ne) := ⟨21, by decide +kernel, rfl, by decide⟩
theorem eX11_isOff_17 : zd 1 cX11_isOff 17 18 (.aload_n 0) := ⟨by decide +kernel, rfl⟩
theorem eX11_isOff_18 : zd 3 cX11_isOff 18 21 (.getfield 25) := ⟨by decide +kernel, rfl⟩
theorem eX11_isOff_21 : zd 2 cX11_isOff 21 23 (.bipush 6) := ⟨by decide +kernel, rfl⟩
theorem eX11_isOff_23 : zd 3 cX11_isOff 23 26 (.ldc2_w 284) := ⟨by decide +kernel, rfl⟩
theorem eX11_isOff_26 : zd 1 cX11_isOff 26 27 (.lastore) := ⟨by decide +kernel, rfl⟩
theorem eX11_isOff_27 : zd 1 cX11_isOff 27 28 (.aload_n 0) := ⟨by decide +kernel, rfl⟩
theorem eX11_isOff_28 : zd 3 cX11_isOff 28 31 (.getfield 25) := ⟨by decide +kernel, rfl⟩
theorem eX11_isOff_31 : zd 2 cX11_isOff 31 33 (.bipush 7) := ⟨by decide +kernel, rfl⟩
theorem eX11_isOff_33 : zd 1 cX11_isOff 33 34 (.lconst 0) := ⟨by decide +kernel, rfl⟩
theorem eX11_isOff_34 : zd 1 cX11_isOff 34 35 (.lastore) := ⟨by decide +kernel, rfl⟩
theorem eX11_isOff_35 : zd 1 cX11_isOff 35 36 (.iload_n 2) := ⟨by decide +kernel, rfl⟩
theorem eX11_isOff_36 : zd 1 cX11_isOff 36 37 (.aload_n 0) := ⟨by decide +kernel, rfl⟩
theorem eX11_isOff_37 : zd 3 cX11_isOff 37 40 (.invokevirtual 312) := ⟨by decide +kernel, rfl⟩
theorem eX11_isOff_40 : zd 1 cX11_isOff 40 41 (.iadd) := ⟨by decide +kernel, rfl⟩
theorem eX11_isOff_41 : zd 1 cX11_isOff 41 42 (.istore_n 2) := ⟨by decide +kernel, rfl⟩
theorem eX11_isOff_42 : zd 3 cX11_isOff 42 45 (.iinc 3 1) := ⟨by decide +kernel, rfl⟩
theorem eX11_isOff_45 : zdi cX11_isOff 45 48 4 (.goto) := ⟨(-41), by decide +kernel, rfl, by decide⟩
theorem eX11_isOff_48 : zd 1 cX11_isOff 48 49 (.aload_n 0) := ⟨by decide +kernel, rfl⟩
theorem eX11_isOff_49 : zd 3 cX11_isOff 49 52 (.invokevirtual 364) := ⟨by decide +kernel, rfl⟩
theorem eX11_isOff_52 : zd 1 cX11_isOff 52 53 (.ireturn) := ⟨by decide +kernel, rfl⟩
noncomputable def fB_Mo_isOff_4 (v0 : tMo) (p1 : Int32) (ih : (Int32 × Int32 × (Nat → Int64) × (Nat → Int32) × (Nat → Int32)) → Option (Int32 × Int32 × (Nat → Int64) × (Nat → Int32) × (Nat → Int32))) (s1 : Int32 × Int32 × (Nat → Int64) × (Nat → Int32) × (Nat → Int32)) : Option (Int32 × Int32 × (Nat → Int64) × (Nat → Int32) × (Nat → Int32)) := (if (p1 + 120) ≤ (s1.2.1) then (some ((s1.1), (s1.2.1), (s1.2.2.1), (s1.2.2.2.1), (s1.2.2.2.2))) else (zlet (if (s1.2.1) = p1 then (vp_updL (vp_updL (s1.2.2.1) 6 (-3)) 7 0) else (s1.2.2.1)) (fun (w7 : (Nat → Int64)) => (Option.bind (f_Mo_second ((gMo_ints v0), (gMo_told v0), (gMo_postX v0), (gMo_postStrong v0), (gMo_atRow v0), (gMo_heights v0), w7, (s1.2.2.2.1), (gMo_text v0), (gMo_said v0), (gMo_readTold v0), (gMo_readX v0), (gMo_readStrong v0), (gMo_readRow v0), (s1.2.2.2.2), (gMo_wasShip v0), (gMo_wasLines v0), (gMo_worst v0), (gMo_logRow v0), (gMo_images v0), (gMo_isKept v0))) (fun (r10 : Int32 × (Nat → Int64) × (Nat → Int32) × (Nat → Int32)) => (zlet ((s1.1) + (r10.1)) (fun (z11 : Int32) => (ih (z11, ((s1.2.1) + 1), (r10.2.1), (r10.2.2.1), (r10.2.2.2))))))))))
noncomputable def f_Mo_isOff (v0 : tMo) (p1 : Int32) : Option (Int32 × (Nat → Int64) × (Nat → Int32) × (Nat → Int32)) := (Option.bind (lp (fB_Mo_isOff_4 v0 p1) LF (0, 0, (gMo_ship v0), (gMo_lines v0), (gMo_parting v0))) (fun (q2 : Int32 × Int32 × (Nat → Int64) × (Nat → Int32) × (Nat → Int32)) => (some ((f_Mo_isUnharmed ((gMo_ints v0), (gMo_told v0), (gMo_postX v0), (gMo_postStrong v0), (gMo_atRow v0), (gMo_heights v0), (q2.2.2.1), (q2.2.2.2.1), (gMo_text v0), (gMo_said v0), (gMo_readTold v0), (gMo_readX v0), (gMo_readStrong v0), (gMo_readRow v0), (q2.2.2.2.2), (gMo_wasShip v0), (gMo_wasLines v0), (gMo_worst v0), (gMo_logRow v0), (gMo_images v0), (gMo_isKept v0))), (q2.2.2.1), (q2.2.2.2.1), (q2.2.2.2.2)))))
abbrev rm_Mo_isOff : Room := { frames := 7, cells := 0, slots := 0, locals := 173 }
set_option maxHeartbeats 4000000 in
set_option maxRecDepth 100000 in
theorem c_Mo_isOff (l : Launch) (g : zGl) (a0 : Nat → Nat) (o0 : Nat) (v0 : tMo) (p1 : Int32) (out : Int32 × (Nat → Int64) × (Nat → Int32) × (Nat → Int32)) (hf : f_Mo_isOff v0 p1 = some out) : zMz l yX11_isOff cX11_isOff 4 rm_Mo_isOff g [.ref (a0 o0), .int p1] (W_Mo g a0 o0 (gMo_ints v0) (gMo_told v0) (gMo_postX v0) (gMo_postStrong v0) (gMo_atRow v0) (gMo_heights v0) (gMo_ship v0) (gMo_lines v0) (gMo_text v0) (gMo_said v0) (gMo_readTold v0) (gMo_readX v0) (gMo_readStrong v0) (gMo_readRow v0) (gMo_parting v0) (gMo_wasShip v0) (gMo_wasLines v0) (gMo_worst v0) (gMo_logRow v0) (gMo_images v0) (gMo_isKept v0)) (out.1) (W_Mo g a0 o0 (gMo_ints v0) (gMo_told v0) (gMo_postX v0) (gMo_postStrong v0) (gMo_atRow v0) (gMo_heights v0) (out.2.1) (out.2.2.1) (gMo_text v0) (gMo_said v0) (gMo_readTold v0) (gMo_readX v0) (gMo_readStrong v0) (gMo_readRow v0) (out.2.2.2) (gMo_wasShip v0) (gMo_wasLines v0) (gMo_worst v0) (gMo_logRow v0) (gMo_images v0) (gMo_isKept v0)) := by
  refine zMz_of (lv := [(0, .ref (a0 o0)), (1, .int p1)]) (by decide) (Nat.le_of_ble_eq_true rfl) rfl (fun x hl hg C hret => ?_)
  subst hl; subst hg
  rw [f_Mo_isOff] at hf
  refine r_iconst C (v := 0) eX11_isOff_0 (by decide) ?_
  refine r_istore_n C [(2, .int 0), (0, .ref (a0 o0)), (1, .int p1)] eX11_isOff_1 rfl (by decide) rfl ?_
  refine r_iconst C (v := 0) eX11_isOff_2 (by decide) ?_
  refine r_istore_n C [(3, .int 0), (2, .int 0), (0, .ref (a0 o0)), (1, .int p1)] eX11_isOff_3 rfl (by decide) rfl ?_
  obtain ⟨q2, h3, hf⟩ := zbind hf
  have J4 : vV x 4 0 0 (W_Mo (z_g x) a0 o0 (gMo_ints v0) (gMo_told v0) (gMo_postX v0) (gMo_postStrong v0) (gMo_atRow v0) (gMo_heights v0) (q2.2.2.1) (q2.2.2.2.1) (gMo_text v0) (gMo_said v0) (gMo_readTold v0) (gMo_readX v0) (gMo_readStrong v0) (gMo_readRow v0) (q2.2.2.2.2) (gMo_wasShip v0) (gMo_wasLines v0) (gMo_worst v0) (gMo_logRow v0) (gMo_images v0) (gMo_isKept v0)) 48 [(0, .ref (a0 o0))] [] := by
    refine r_aload_n C eX11_isOff_48 0 rfl rfl ?_
    refine r_V_z (ws' := W_Mo (z_g x) a0 o0 (gMo_ints v0) (gMo_told v0) (gMo_postX v0) (gMo_postStrong v0) (gMo_atRow v0) (gMo_heights v0) (q2.2.2.1) (q2.2.2.2.1) (gMo_text v0) (gMo_said v0) (gMo_readTold v0) (gMo_readX v0) (gMo_readStrong v0) (gMo_readRow v0) (q2.2.2.2.2) (gMo_wasShip v0) (gMo_wasLines v0) (gMo_worst v0) (gMo_logRow v0) (gMo_images v0) (gMo_isKept v0)) C (c_Mo_isUnharmed (z_l x) (z_g x) a0 o0 ((gMo_ints v0), (gMo_told v0), (gMo_postX v0), (gMo_postStrong v0), (gMo_atRow v0), (gMo_heights v0), (q2.2.2.1), (q2.2.2.2.1), (gMo_text v0), (gMo_said v0), (gMo_readTold v0), (gMo_readX v0), (gMo_readStrong v0), (gMo_readRow v0), (q2.2.2.2.2), (gMo_wasShip v0), (gMo_wasLines v0), (gMo_worst v0), (gMo_logRow v0), (gMo_images v0), (gMo_isKept v0))  _ rfl) eX11_isOff_49 MX11_364 ⟨0, 11, _, _, rfl, rfl, rfl⟩ [0, 1, 2, 3, 4, 5, 6, 7, 8, 9, 10, 11, 12, 13, 14, 15, 16, 17, 18, 19] rfl rfl rfl rfl [] rfl trivial 20 rfl rfl rfl rfl rfl rfl (fun zb12 => ?_)
    obtain rfl := Option.some.inj (show some (((f_Mo_isUnharmed ((gMo_ints v0), (gMo_told v0), (gMo_postX v0), (gMo_postStrong v0), (gMo_atRow v0), (gMo_heights v0), (q2.2.2.1), (q2.2.2.2.1), (gMo_text v0), (gMo_said v0), (gMo_readTold v0), (gMo_readX v0), (gMo_readStrong v0), (gMo_readRow v0), (q2.2.2.2.2), (gMo_wasShip v0), (gMo_wasLines v0), (gMo_worst v0), (gMo_logRow v0), (gMo_images v0), (gMo_isKept v0))), (q2.2.2.1), (q2.2.2.2.1), (q2.2.2.2.2)) : Int32 × (Nat → Int64) × (Nat → Int32) × (Nat → Int32)) = some _ from hf)
    exact hret _ _ _ eX11_isOff_52 zb12
  have L5 : ∀ (nL5 : Nat) (s1 : Int32 × Int32 × (Nat → Int64) × (Nat → Int32) × (Nat → Int32)), lp (fB_Mo_isOff_4 v0 p1) nL5 s1 = some q2 → vV x 4 0 0 (W_Mo (z_g x) a0 o0 (gMo_ints v0) (gMo_told v0) (gMo_postX v0) (gMo_postStrong v0) (gMo_atRow v0) (gMo_heights v0) (s1.2.2.1) (s1.2.2.2.1) (gMo_text v0) (gMo_said v0) (gMo_readTold v0) (gMo_readX v0) (gMo_readStrong v0) (gMo_readRow v0) (s1.2.2.2.2) (gMo_wasShip v0) (gMo_wasLines v0) (gMo_worst v0) (gMo_logRow v0) (gMo_images v0) (gMo_isKept v0)) 4 [(0, .ref (a0 o0)), (1, .int p1), (2, .int (s1.1)), (3, .int (s1.2.1))] [] := by
    intro nL5
    induction nL5 with
    | zero => intro s1 hq; cases hq
    | succ nL5 ihL5 =>
      intro s1 hbL5
      rw [lp_succ, fB_Mo_isOff_4] at hbL5
      refine r_iload_n C eX11_isOff_4 3 rfl rfl ?_
      refine r_iload_n C eX11_isOff_5 1 rfl rfl ?_
      refine r_bipush C (v := 120) eX11_isOff_6 (by decide) ?_
      refine r_iadd C eX11_isOff_8 ?_
      refine r_icmp_ge C eX11_isOff_9 (fun c6 => ?_) (fun c6 => ?_)
      · rw [if_pos c6] at hbL5
        obtain rfl := Option.some.inj hbL5
        refine r_sub (lv' := [(0, .ref (a0 o0))]) [0] rfl ?_
        exact J4
      · rw [if_neg c6] at hbL5
        refine r_iload_n C eX11_isOff_12 3 rfl rfl ?_
        refine r_iload_n C eX11_isOff_13 1 rfl rfl ?_
        obtain ⟨w7, hw7, hbL5⟩ := zlet_of hbL5
        have J8 : vV x 4 0 0 (W_Mo (z_g x) a0 o0 (gMo_ints v0) (gMo_told v0) (gMo_postX v0) (gMo_postStrong v0) (gMo_atRow v0) (gMo_heights v0) w7 (s1.2.2.2.1) (gMo_text v0) (gMo_said v0) (gMo_readTold v0) (gMo_readX v0) (gMo_readStrong v0) (gMo_readRow v0) (s1.2.2.2.2) (gMo_wasShip v0) (gMo_wasLines v0) (gMo_worst v0) (gMo_logRow v0) (gMo_images v0) (gMo_isKept v0)) 35 [(0, .ref (a0 o0)), (1, .int p1), (2, .int (s1.1)), (3, .int (s1.2.1))] [] := by
          refine r_iload_n C eX11_isOff_35 2 rfl rfl ?_
          refine r_aload_n C eX11_isOff_36 0 rfl rfl ?_
          obtain ⟨r10, hr10, hbL5⟩ := zbind hbL5
          refine r_V_i (ws' := W_Mo (z_g x) a0 o0 (gMo_ints v0) (gMo_told v0) (gMo_postX v0) (gMo_postStrong v0) (gMo_atRow v0) (gMo_heights v0) (r10.2.1) (r10.2.2.1) (gMo_text v0) (gMo_said v0) (gMo_readTold v0) (gMo_readX v0) (gMo_readStrong v0) (gMo_readRow v0) (r10.2.2.2) (gMo_wasShip v0) (gMo_wasLines v0) (gMo_worst v0) (gMo_logRow v0) (gMo_images v0) (gMo_isKept v0)) C (c_Mo_second (z_l x) (z_g x) a0 o0 ((gMo_ints v0), (gMo_told v0), (gMo_postX v0), (gMo_postStrong v0), (gMo_atRow v0), (gMo_heights v0), w7, (s1.2.2.2.1), (gMo_text v0), (gMo_said v0), (gMo_readTold v0), (gMo_readX v0), (gMo_readStrong v0), (gMo_readRow v0), (s1.2.2.2.2), (gMo_wasShip v0), (gMo_wasLines v0), (gMo_worst v0), (gMo_logRow v0), (gMo_images v0), (gMo_isKept v0))  r10 hr10) eX11_isOff_37 MX11_312 ⟨0, 11, _, _, rfl, rfl, rfl⟩ [0, 1, 2, 3, 4, 5, 6, 7, 8, 9, 10, 11, 12, 13, 14, 15, 16, 17, 18, 19] rfl rfl rfl rfl [] rfl trivial 20 rfl rfl rfl rfl rfl rfl ?_
          refine r_iadd C eX11_isOff_40 ?_
          obtain ⟨z11, hz11, hbL5⟩ := zlet_of hbL5
          refine r_nami hz11 ?_
          refine r_istore_n C [(2, .int z11), (0, .ref (a0 o0)), (1, .int p1), (3, .int (s1.2.1))] eX11_isOff_41 rfl (by decide) rfl ?_
          refine r_iinc C (v := ((s1.2.1) + 1)) [(3, .int ((s1.2.1) + 1)), (2, .int z11), (0, .ref (a0 o0)), (1, .int p1)] eX11_isOff_42 3 rfl rfl (by decide) rfl ?_
          refine r_goto C eX11_isOff_45 ?_
          refine r_sub (lv' := [(0, .ref (a0 o0)), (1, .int p1), (2, .int z11), (3, .int ((s1.2.1) + 1))]) [2, 3, 1, 0] rfl ?_
          have hc := ihL5 (z11, ((s1.2.1) + 1), (r10.2.1), (r10.2.2.1), (r10.2.2.2)) hbL5
          exact hc
        refine r_icmp_ne C eX11_isOff_14 (fun c9 => ?_) (fun c9 => ?_)
        · rw [if_neg c9] at hw7
          subst hw7
          exact J8 
        · rw [if_pos c9] at hw7
          refine r_aload_n C eX11_isOff_17 0 rfl rfl ?_
          refine r_get (v := .ref (a0 (o0 + 6))) C eX11_isOff_18 FX11_25 0 rfl rfl ?_
          refine r_bipush C (v := 6) eX11_isOff_21 (by decide) ?_
          refine r_ldc2 C (v := (-3)) eX11_isOff_23 q1287 ?_
          refine r_lastN (ws' := W_Mo (z_g x) a0 o0 (gMo_ints v0) (gMo_told v0) (gMo_postX v0) (gMo_postStrong v0) (gMo_atRow v0) (gMo_heights v0) (vp_updL (s1.2.2.1) 6 (-3)) (s1.2.2.2.1) (gMo_text v0) (gMo_said v0) (gMo_readTold v0) (gMo_readX v0) (gMo_readStrong v0) (gMo_readRow v0) (s1.2.2.2.2) (gMo_wasShip v0) (gMo_wasLines v0) (gMo_worst v0) (gMo_logRow v0) (gMo_images v0) (gMo_isKept v0)) C eX11_isOff_26 6 6 (by decide) rfl rfl ?_
          refine r_aload_n C eX11_isOff_27 0 rfl rfl ?_
          refine r_get (v := .ref (a0 (o0 + 6))) C eX11_isOff_28 FX11_25 0 rfl rfl ?_
          refine r_bipush C (v := 7) eX11_isOff_31 (by decide) ?_
          refine r_lconst C (v := 0) eX11_isOff_33 (by decide) ?_
          refine r_lastN (ws' := W_Mo (z_g x) a0 o0 (gMo_ints v0) (gMo_told v0) (gMo_postX v0) (gMo_postStrong v0) (gMo_atRow v0) (gMo_heights v0) (vp_updL (vp_updL (s1.2.2.1) 6 (-3)) 7 0) (s1.2.2.2.1) (gMo_text v0) (gMo_said v0) (gMo_readTold v0) (gMo_readX v0) (gMo_readStrong v0) (gMo_readRow v0) (s1.2.2.2.2) (gMo_wasShip v0) (gMo_wasLines v0) (gMo_worst v0) (gMo_logRow v0) (gMo_images v0) (gMo_isKept v0)) C eX11_isOff_34 6 7 (by decide) rfl rfl ?_
          subst hw7
          exact J8 
  refine r_sub (lv' := [(0, .ref (a0 o0)), (1, .int p1), (2, .int 0), (3, .int 0)]) [2, 3, 1, 0] rfl ?_
  have hc := L5 LF (0, 0, (gMo_ship v0), (gMo_lines v0), (gMo_parting v0)) h3
  exact hc
theorem eX11_isTried_0 : zd 1 cX11_isTried 0 1 (.iload_n 0) := ⟨by decide +kernel, rfl⟩
theorem eX11_isTried_1 : zd 1 cX11_isTried 1 2 (.i2l) := ⟨by decide +kernel, rfl⟩
theorem eX11_isTried_2 : zd 1 cX11_isTried 2 3 (.lconst 0) := ⟨by decide +kernel, rfl⟩
theorem eX11_isTried_3 : zd 3 cX11_isTried 3 6 (.ldc2_w 228) := ⟨by decide +kernel, rfl⟩
theorem eX11_isTried_6 : zd 3 cX11_isTried 6 9 (.invokestatic 86) := ⟨by decide +kernel, rfl⟩
theorem eX11_isTried_9 : zdi cX11_isTried 9 12 38 (.ifCond .ne) := ⟨29, by decide +kernel, rfl, by decide⟩
theorem eX11_isTried_12 : zd 1 cX11_isTried 12 13 (.iload_n 0) := ⟨by decide +kernel, rfl⟩
theorem eX11_isTried_13 : zd 1 cX11_isTried 13 14 (.i2l) := ⟨by decide +kernel, rfl⟩
theorem eX11_isTried_14 : zd 3 cX11_isTried 14 17 (.ldc2_w 349) := ⟨by decide +kernel, rfl⟩
theorem eX11_isTried_17 : zd 3 cX11_isTried 17 20 (.ldc2_w 351) := ⟨by decide +kernel, rfl⟩
theorem eX11_isTried_20 : zd 3 cX11_isTried 20 23 (.invokestatic 86) := ⟨by decide +kernel, rfl⟩
theorem eX11_isTried_23 : zdi cX11_isTried 23 26 38 (.ifCond .ne) := ⟨15, by decide +kernel, rfl, by decide⟩
theorem eX11_isTried_26 : zd 1 cX11_isTried 26 27 (.iload_n 0) := ⟨by decide +kernel, rfl⟩
theorem eX11_isTried_27 : zd 2 cX11_isTried 27 29 (.bipush 15) := ⟨by decide +kernel, rfl⟩
theorem eX11_isTried_29 : zdi cX11_isTried 29 32 38 (.if_icmp .eq) := ⟨9, by decide +kernel, rfl, by decide⟩
theorem eX11_isTried_32 : zd 1 cX11_isTried 32 33 (.iload_n 0) := ⟨by decide +kernel, rfl⟩
theorem eX11_isTried_33 : zd 2 cX11_isTried 33 35 (.bipush 17) := ⟨by decide +kernel, rfl⟩
theorem eX11_isTried_35 : zdi cX11_isTried 35 38 42 (.if_icmp .ne) := ⟨7, by decide +kernel, rfl, by decide⟩
theorem eX11_isTried_38 : zd 1 cX11_isTried 38 39 (.iconst 1) := ⟨by decide +kernel, rfl⟩
theorem eX11_isTried_39 : zdi cX11_isTried 39 42 43 (.goto) := ⟨4, by decide +kernel, rfl, by decide⟩
theorem eX11_isTried_42 : zd 1 cX11_isTried 42 43 (.iconst 0) := ⟨by decide +kernel, rfl⟩
theorem eX11_isTried_43 : zd 1 cX11_isTried 43 44 (.ireturn) := ⟨by decide +kernel, rfl⟩
noncomputable def f_Mo_isTried  (p1 : Int32) : Int32 := (if (f_Mo_in p1.toInt64 0 5) = 0 then (if (f_Mo_in p1.toInt64 9 11) = 0 then (if p1 = 15 then 1 else (if p1 = 17 then 1 else 0)) else 1) else 1)
abbrev rm_Mo_isTried : Room := { frames := 1, cells := 0, slots := 0, locals := 25 }
set_option maxHeartbeats 4000000 in
set_option maxRecDepth 100000 in
theorem c_Mo_isTried (l : Launch) (g : zGl)  (p1 : Int32) (out : Int32) (hf : f_Mo_isTried p1 = out) : zMz l yX11_isTried cX11_isTried 1 rm_Mo_isTried g [.int p1] ([]) out ([]) := by
  refine zMz_of (lv := [(0, .int p1)]) (by decide) (Nat.le_of_ble_eq_true rfl) rfl (fun x hl hg C hret => ?_)
  subst hl; subst hg
  rw [f_Mo_isTried] at hf
  refine r_iload_n C eX11_isTried_0 0 rfl rfl ?_
  refine r_i2l C eX11_isTried_1 ?_
  refine r_lconst C (v := 0) eX11_isTried_2 (by decide) ?_
  refine r_ldc2 C (v := 5) eX11_isTried_3 q1352 ?_
  refine r_S_z (ws' := []) C (c_Mo_in (z_l x) (z_g x)  p1.toInt64 0 5 _ rfl) eX11_isTried_6 MX11_86 [] rfl rfl rfl rfl [] rfl trivial 0 rfl rfl rfl rfl rfl rfl (fun zb1 => ?_)
  refine r_if_ne C eX11_isTried_9 (fun c2 => ?_) (fun c2 => ?_)
  · rw [if_neg c2] at hf
    refine r_iconst C (v := 1) eX11_isTried_38 (by decide) ?_
    refine r_goto C eX11_isTried_39 ?_
    subst hf
    exact hret _ _ _ eX11_isTried_43 zB1
  · rw [if_pos c2] at hf
    refine r_iload_n C eX11_isTried_12 0 rfl rfl ?_
    refine r_i2l C eX11_isTried_13 ?_
    refine r_ldc2 C (v := 9) eX11_isTried_14 q1456 ?_
    refine r_ldc2 C (v := 11) eX11_isTried_17 q1457 ?_
    refine r_S_z (ws' := []) C (c_Mo_in (z_l x) (z_g x)  p1.toInt64 9 11 _ rfl) eX11_isTried_20 MX11_86 [] rfl rfl rfl rfl [] rfl trivial 0 rfl rfl rfl rfl rfl rfl (fun zb3 => ?_)
    refine r_if_ne C eX11_isTried_23 (fun c4 => ?_) (fun c4 => ?_)
    · rw [if_neg c4] at hf
      refine r_iconst C (v := 1) eX11_isTried_38 (by decide) ?_
      refine r_goto C eX11_isTried_39 ?_
      subst hf
      exact hret _ _ _ eX11_isTried_43 zB1
    · rw [if_pos c4] at hf
      refine r_iload_n C eX11_isTried_26 0 rfl rfl ?_
      refine r_bipush C (v := 15) eX11_isTried_27 (by decide) ?_
      refine r_icmp_eq C eX11_isTried_29 (fun c5 => ?_) (fun c5 => ?_)
      · rw [if_pos c5] at hf
        refine r_iconst C (v := 1) eX11_isTried_38 (by decide) ?_
        refine r_goto C eX11_isTried_39 ?_
        subst hf
        exact hret _ _ _ eX11_isTried_43 zB1
      · rw [if_neg c5] at hf
        refine r_iload_n C eX11_isTried_32 0 rfl rfl ?_
        refine r_bipush C (v := 17) eX11_isTried_33 (by decide) ?_
        refine r_icmp_ne C eX11_isTried_35 (fun c6 => ?_) (fun c6 => ?_)
        · rw [if_neg c6] at hf
          refine r_iconst C (v := 0) eX11_isTried_42 (by decide) ?_
          subst hf
          exact hret _ _ _ eX11_isTried_43 zB0
        · rw [if_pos c6] at hf
          refine r_iconst C (v := 1) eX11_isTried_38 (by decide) ?_
          refine r_goto C eX11_isTried_39 ?_
          subst hf
          exact hret _ _ _ eX11_isTried_43 zB1
theorem eX11_judge_0 : zd 1 cX11_judge 0 1 (.iload_n 1) := ⟨by decide +kernel, rfl⟩
theorem eX11_judge_1 : zd 1 cX11_judge 1 2 (.i2l) := ⟨by decide +kernel, rfl⟩
theorem eX11_judge_2 : zd 1 cX11_judge 2 3 (.lconst 0) := ⟨by decide +kernel, rfl⟩
theorem eX11_judge_3 : zd 3 cX11_judge 3 6 (.ldc2_w 286) := ⟨by decide +kernel, rfl⟩
theorem eX11_judge_6 : zd 3 cX11_judge 6 9 (.invokestatic 86) := ⟨by decide +kernel, rfl⟩
theorem eX11_judge_9 : zdi cX11_judge 9 12 15 (.ifCond .ne) := ⟨6, by decide +kernel, rfl, by decide⟩
theorem eX11_judge_12 : zd 2 cX11_judge 12 14 (.ldc 90) := ⟨by decide +kernel, rfl⟩
theorem eX11_judge_14 : zd 1 cX11_judge 14 15 (.ireturn) := ⟨by decide +kernel, rfl⟩
theorem eX11_judge_15 : zd 1 cX11_judge 15 16 (.aload_n 0) := ⟨by decide +kernel, rfl⟩
theorem eX11_judge_16 : zd 3 cX11_judge 16 19 (.invokevirtual 356) := ⟨by decide +kernel, rfl⟩
theorem eX11_judge_19 : zd 1 cX11_judge 19 20 (.iconst (-1)) := ⟨by decide +kernel, rfl⟩
theorem eX11_judge_20 : zd 1 cX11_judge 20 21 (.istore_n 2) := ⟨by decide +kernel, rfl⟩
theorem eX11_judge_21 : zd 1 cX11_judge 21 22 (.iconst 0) := ⟨by decide +kernel, rfl⟩
theorem eX11_judge_22 : zd 1 cX11_judge 22 23 (.istore_n 3) := ⟨by decide +kernel, rfl⟩
theorem eX11_judge_23 : zd 1 cX11_judge 23 24 (.iload_n 3) := ⟨by decide +kernel, rfl⟩
theorem eX11_judge_24 : zd 1 cX11_judge 24 25 (.aload_n 0) := ⟨by decide +kernel, rfl⟩
theorem eX11_judge_25 : zd 3 cX11_judge 25 28 (.getfield 409) := ⟨by decide +kernel, rfl⟩
theorem eX11_judge_28 : zdi cX11_judge 28 31 81 (.if_icmp .ge) := ⟨53, by decide +kernel, rfl, by decide⟩
theorem eX11_judge_31 : zd 1 cX11_judge 31 32 (.iload_n 2) := ⟨by decide +kernel, rfl⟩
theorem eX11_judge_32 : zdi cX11_judge 32 35 81 (.ifCond .ge) := ⟨49, by decide +kernel, rfl, by decide⟩
theorem eX11_judge_35 : zd 1 cX11_judge 35 36 (.aload_n 0) := ⟨by decide +kernel, rfl⟩
theorem eX11_judge_36 : zd 3 cX11_judge 36 39 (.getfield 25) := ⟨by decide +kernel, rfl⟩
theorem eX11_judge_39 : zd 1 cX11_judge 39 40 (.iconst 0) := ⟨by decide +kernel, rfl⟩
theorem eX11_judge_40 : zd 1 cX11_judge 40 41 (.laload) := ⟨by decide +kernel, rfl⟩
theorem eX11_judge_41 : zd 1 cX11_judge 41 42 (.aload_n 0) := ⟨by decide +kernel, rfl⟩
theorem eX11_judge_42 : zd 3 cX11_judge 42 45 (.getfield 63) := ⟨by decide +kernel, rfl⟩
theorem eX11_judge_45 : zd 1 cX11_judge 45 46 (.iload_n 3) := ⟨by decide +kernel, rfl⟩
theorem eX11_judge_46 : zd 1 cX11_judge 46 47 (.iaload) := ⟨by decide +kernel, rfl⟩
theorem eX11_judge_47 : zd 1 cX11_judge 47 48 (.i2l) := ⟨by decide +kernel, rfl⟩
theorem eX11_judge_48 : zd 1 cX11_judge 48 49 (.lsub) := ⟨by decide +kernel, rfl⟩
theorem eX11_judge_49 : zd 3 cX11_judge 49 52 (.invokestatic 236) := ⟨by decide +kernel, rfl⟩
theorem eX11_judge_52 : zd 1 cX11_judge 52 53 (.iload_n 1) := ⟨by decide +kernel, rfl⟩
theorem eX11_judge_53 : zd 1 cX11_judge 53 54 (.i2l) := ⟨by decide +kernel, rfl⟩
theorem eX11_judge_54 : zd 1 cX11_judge 54 55 (.lcmp) := ⟨by decide +kernel, rfl⟩
theorem eX11_judge_55 : zdi cX11_judge 55 58 62 (.ifCond .le) := ⟨7, by decide +kernel, rfl, by decide⟩
theorem eX11_judge_58 : zd 1 cX11_judge 58 59 (.iload_n 3) := ⟨by decide +kernel, rfl⟩
theorem eX11_judge_59 : zdi cX11_judge 59 62 63 (.goto) := ⟨4, by decide +kernel, rfl, by decide⟩
theorem eX11_judge_62 : zd 1 cX11_judge 62 63 (.iconst (-1)) := ⟨by decide +kernel, rfl⟩
theorem eX11_judge_63 : zd 1 cX11_judge 63 64 (.istore_n 2) := ⟨by decide +kernel, rfl⟩
theorem eX11_judge_64 : zd 1 cX11_judge 64 65 (.aload_n 0) := ⟨by decide +kernel, rfl⟩
theorem eX11_judge_65 : zd 1 cX11_judge 65 66 (.iload_n 3) := ⟨by decide +kernel, rfl⟩
theorem eX11_judge_66 : zd 3 cX11_judge 66 69 (.invokevirtual 315) := ⟨by decide +kernel, rfl⟩
theorem eX11_judge_69 : zd 1 cX11_judge 69 70 (.aload_n 0) := ⟨by decide +kernel, rfl⟩
theorem eX11_judge_70 : zd 3 cX11_judge 70 73 (.invokevirtual 312) := ⟨by decide +kernel, rfl⟩
theorem eX11_judge_73 : zd 2 cX11_judge 73 75 (.istore 4) := ⟨by decide +kernel, rfl⟩
theorem eX11_judge_75 : zd 3 cX11_judge 75 78 (.iinc 3 1) := ⟨by decide +kernel, rfl⟩
theorem eX11_judge_78 : zdi cX11_judge 78 81 23 (.goto) := ⟨(-55), by decide +kernel, rfl, by decide⟩
theorem eX11_judge_81 : zd 1 cX11_judge 81 82 (.aload_n 0) := ⟨by decide +kernel, rfl⟩
theorem eX11_judge_82 : zd 3 cX11_judge 82 85 (.invokevirtual 359) := ⟨by decide +kernel, rfl⟩
theorem eX11_judge_85 : zd 1 cX11_judge 85 86 (.iload_n 2) := ⟨by decide +kernel, rfl⟩
theorem eX11_judge_86 : zd 1 cX11_judge 86 87 (.ireturn) := ⟨by decide +kernel, rfl⟩
theorem FX11_63 : zlF RX11 63 11 31 := ⟨(RX11, TX11, 34), rfl, by decide, q1102, zin11⟩
noncomputable def fB_Mo_judge_23 (v0 : tMo) (p1 : Int32) (r3 : (Nat → Int64) × (Nat → Int32)) (ih : (Int32 × Int32 × (Nat → Int64) × (Nat → Int32) × (Nat → Int32)) → Option (Int32 × Int32 × (Nat → Int64) × (Nat → Int32) × (Nat → Int32))) (s4 : Int32 × Int32 × (Nat → Int64) × (Nat → Int32) × (Nat → Int32)) : Option (Int32 × Int32 × (Nat → Int64) × (Nat → Int32) × (Nat → Int32)) := (if ((gMo_ints v0) 30) ≤ (s4.2.1) then (some ((s4.1), (s4.2.1), (s4.2.2.1), (s4.2.2.2.1), (s4.2.2.2.2))) else (if 0 ≤ (s4.1) then (some ((s4.1), (s4.2.1), (s4.2.2.1), (s4.2.2.2.1), (s4.2.2.2.2))) else (if inb (s4.2.1) 60 = true then (zlet (if (f_Mo_size (((s4.2.2.1) 0) - ((gMo_logRow v0) (ix (s4.2.1))).toInt64)) ≤ p1.toInt64 then (-1) else (s4.2.1)) (fun (w12 : Int32) => (Option.bind (f_Mo_steer ((gMo_ints v0), (gMo_told v0), (gMo_postX v0), (gMo_postStrong v0), (gMo_atRow v0), (gMo_heights v0), (s4.2.2.1), (s4.2.2.2.1), (gMo_text v0), (gMo_said v0), (gMo_readTold v0), (gMo_readX v0), (gMo_readStrong v0), (gMo_readRow v0), (s4.2.2.2.2), (r3.1), (r3.2), (gMo_worst v0), (gMo_logRow v0), (gMo_images v0), (gMo_isKept v0)) (s4.2.1)) (fun (r15 : (Nat → Int64)) => (Option.bind (f_Mo_second ((gMo_ints v0), (gMo_told v0), (gMo_postX v0), (gMo_postStrong v0), (gMo_atRow v0), (gMo_heights v0), r15, (s4.2.2.2.1), (gMo_text v0), (gMo_said v0), (gMo_readTold v0), (gMo_readX v0), (gMo_readStrong v0), (gMo_readRow v0), (s4.2.2.2.2), (r3.1), (r3.2), (gMo_worst v0), (gMo_logRow v0), (gMo_images v0), (gMo_isKept v0))) (fun (r16 : Int32 × (Nat → Int64) × (Nat → Int32) × (Nat → Int32)) => (ih (w12, ((s4.2.1) + 1), (r16.2.1), (r16.2.2.1), (r16.2.2.2))))))))) else none)))
noncomputable def f_Mo_judge (v0 : tMo) (p1 : Int32) : Option (Int32 × (Nat → Int64) × (Nat → Int32) × (Nat → Int32) × (Nat → Int64) × (Nat → Int32)) := (if (f_Mo_in p1.toInt64 0 9999) = 0 then (some ((-1000000002), (gMo_ship v0), (gMo_lines v0), (gMo_parting v0), (gMo_wasShip v0), (gMo_wasLines v0))) else (Option.bind (f_Mo_save v0) (fun (r3 : (Nat → Int64) × (Nat → Int32)) => (Option.bind (lp (fB_Mo_judge_23 v0 p1 r3) LF ((-1), 0, (gMo_ship v0), (gMo_lines v0), (gMo_parting v0))) (fun (q5 : Int32 × Int32 × (Nat → Int64) × (Nat → Int32) × (Nat → Int32)) => (Option.bind (f_Mo_back ((gMo_ints v0), (gMo_told v0), (gMo_postX v0), (gMo_postStrong v0), (gMo_atRow v0), (gMo_heights v0), (q5.2.2.1), (q5.2.2.2.1), (gMo_text v0), (gMo_said v0), (gMo_readTold v0), (gMo_readX v0), (gMo_readStrong v0), (gMo_readRow v0), (q5.2.2.2.2), (r3.1), (r3.2), (gMo_worst v0), (gMo_logRow v0), (gMo_images v0), (gMo_isKept v0))) (fun (r17 : (Nat → Int64) × (Nat → Int32)) => (some ((q5.1), (r17.1), (r17.2), (q5.2.2.2.2), (r3.1), (r3.2))))))))))
abbrev rm_Mo_judge : Room := { frames := 7, cells := 0, slots := 0, locals := 173 }
set_option maxHeartbeats 4000000 in
set_option maxRecDepth 100000 in
theorem c_Mo_judge (l : Launch) (g : zGl) (a0 : Nat → Nat) (o0 : Nat) (v0 : tMo) (p1 : Int32) (out : Int32 × (Nat → Int64) × (Nat → Int32) × (Nat → Int32) × (Nat → Int64) × (Nat → Int32)) (hf : f_Mo_judge v0 p1 = some out) : zMi l yX11_judge cX11_judge 5 rm_Mo_judge g [.ref (a0 o0), .int p1] (W_Mo g a0 o0 (gMo_ints v0) (gMo_told v0) (gMo_postX v0) (gMo_postStrong v0) (gMo_atRow v0) (gMo_heights v0) (gMo_ship v0) (gMo_lines v0) (gMo_text v0) (gMo_said v0) (gMo_readTold v0) (gMo_readX v0) (gMo_readStrong v0) (gMo_readRow v0) (gMo_parting v0) (gMo_wasShip v0) (gMo_wasLines v0) (gMo_worst v0) (gMo_logRow v0) (gMo_images v0) (gMo_isKept v0)) (out.1) (W_Mo g a0 o0 (gMo_ints v0) (gMo_told v0) (gMo_postX v0) (gMo_postStrong v0) (gMo_atRow v0) (gMo_heights v0) (out.2.1) (out.2.2.1) (gMo_text v0) (gMo_said v0) (gMo_readTold v0) (gMo_readX v0) (gMo_readStrong v0) (gMo_readRow v0) (out.2.2.2.1) (out.2.2.2.2.1) (out.2.2.2.2.2) (gMo_worst v0) (gMo_logRow v0) (gMo_images v0) (gMo_isKept v0)) := by
  refine zMi_of (lv := [(0, .ref (a0 o0)), (1, .int p1)]) (by decide) (Nat.le_of_ble_eq_true rfl) rfl (fun x hl hg C hret => ?_)
  subst hl; subst hg
  rw [f_Mo_judge] at hf
  refine r_iload_n C eX11_judge_0 1 rfl rfl ?_
  refine r_i2l C eX11_judge_1 ?_
  refine r_lconst C (v := 0) eX11_judge_2 (by decide) ?_
  refine r_ldc2 C (v := 9999) eX11_judge_3 q1291 ?_
  refine r_S_z (ws' := W_Mo (z_g x) a0 o0 (gMo_ints v0) (gMo_told v0) (gMo_postX v0) (gMo_postStrong v0) (gMo_atRow v0) (gMo_heights v0) (gMo_ship v0) (gMo_lines v0) (gMo_text v0) (gMo_said v0) (gMo_readTold v0) (gMo_readX v0) (gMo_readStrong v0) (gMo_readRow v0) (gMo_parting v0) (gMo_wasShip v0) (gMo_wasLines v0) (gMo_worst v0) (gMo_logRow v0) (gMo_images v0) (gMo_isKept v0)) C (c_Mo_in (z_l x) (z_g x)  p1.toInt64 0 9999 _ rfl) eX11_judge_6 MX11_86 [] rfl rfl rfl rfl [0, 1, 2, 3, 4, 5, 6, 7, 8, 9, 10, 11, 12, 13, 14, 15, 16, 17, 18, 19] rfl ⟨rfl, rfl, rfl, rfl, rfl, rfl, rfl, rfl, rfl, rfl, rfl, rfl, rfl, rfl, rfl, rfl, rfl, rfl, rfl, rfl, trivial⟩ 20 rfl rfl rfl rfl rfl rfl (fun zb1 => ?_)
  refine r_if_ne C eX11_judge_9 (fun c2 => ?_) (fun c2 => ?_)
  · rw [if_neg c2] at hf
    refine r_aload_n C eX11_judge_15 0 rfl rfl ?_
    obtain ⟨r3, hr3, hf⟩ := zbind hf
    refine r_V_v (ws' := W_Mo (z_g x) a0 o0 (gMo_ints v0) (gMo_told v0) (gMo_postX v0) (gMo_postStrong v0) (gMo_atRow v0) (gMo_heights v0) (gMo_ship v0) (gMo_lines v0) (gMo_text v0) (gMo_said v0) (gMo_readTold v0) (gMo_readX v0) (gMo_readStrong v0) (gMo_readRow v0) (gMo_parting v0) (r3.1) (r3.2) (gMo_worst v0) (gMo_logRow v0) (gMo_images v0) (gMo_isKept v0)) C (c_Mo_save (z_l x) (z_g x) a0 o0 v0  r3 hr3) eX11_judge_16 MX11_356 ⟨0, 11, _, _, rfl, rfl, rfl⟩ [0, 1, 2, 3, 4, 5, 6, 7, 8, 9, 10, 11, 12, 13, 14, 15, 16, 17, 18, 19] rfl rfl rfl rfl [] rfl trivial 20 rfl rfl rfl rfl rfl rfl ?_
    refine r_iconst C (v := (-1)) eX11_judge_19 (by decide) ?_
    refine r_istore_n C [(2, .int (-1)), (0, .ref (a0 o0)), (1, .int p1)] eX11_judge_20 rfl (by decide) rfl ?_
    refine r_iconst C (v := 0) eX11_judge_21 (by decide) ?_
    refine r_istore_n C [(3, .int 0), (2, .int (-1)), (0, .ref (a0 o0)), (1, .int p1)] eX11_judge_22 rfl (by decide) rfl ?_
    obtain ⟨q5, h6, hf⟩ := zbind hf
    have J7 : vV x 5 0 0 (W_Mo (z_g x) a0 o0 (gMo_ints v0) (gMo_told v0) (gMo_postX v0) (gMo_postStrong v0) (gMo_atRow v0) (gMo_heights v0) (q5.2.2.1) (q5.2.2.2.1) (gMo_text v0) (gMo_said v0) (gMo_readTold v0) (gMo_readX v0) (gMo_readStrong v0) (gMo_readRow v0) (q5.2.2.2.2) (r3.1) (r3.2) (gMo_worst v0) (gMo_logRow v0) (gMo_images v0) (gMo_isKept v0)) 81 [(0, .ref (a0 o0)), (2, .int (q5.1))] [] := by
      refine r_aload_n C eX11_judge_81 0 rfl rfl ?_
      obtain ⟨r17, hr17, hf⟩ := zbind hf
      refine r_V_v (ws' := W_Mo (z_g x) a0 o0 (gMo_ints v0) (gMo_told v0) (gMo_postX v0) (gMo_postStrong v0) (gMo_atRow v0) (gMo_heights v0) (r17.1) (r17.2) (gMo_text v0) (gMo_said v0) (gMo_readTold v0) (gMo_readX v0) (gMo_readStrong v0) (gMo_readRow v0) (q5.2.2.2.2) (r3.1) (r3.2) (gMo_worst v0) (gMo_logRow v0) (gMo_images v0) (gMo_isKept v0)) C (c_Mo_back (z_l x) (z_g x) a0 o0 ((gMo_ints v0), (gMo_told v0), (gMo_postX v0), (gMo_postStrong v0), (gMo_atRow v0), (gMo_heights v0), (q5.2.2.1), (q5.2.2.2.1), (gMo_text v0), (gMo_said v0), (gMo_readTold v0), (gMo_readX v0), (gMo_readStrong v0), (gMo_readRow v0), (q5.2.2.2.2), (r3.1), (r3.2), (gMo_worst v0), (gMo_logRow v0), (gMo_images v0), (gMo_isKept v0))  r17 hr17) eX11_judge_82 MX11_359 ⟨0, 11, _, _, rfl, rfl, rfl⟩ [0, 1, 2, 3, 4, 5, 6, 7, 8, 9, 10, 11, 12, 13, 14, 15, 16, 17, 18, 19] rfl rfl rfl rfl [] rfl trivial 20 rfl rfl rfl rfl rfl rfl ?_
      refine r_iload_n C eX11_judge_85 1 rfl rfl ?_
      obtain rfl := Option.some.inj (show some (((q5.1), (r17.1), (r17.2), (q5.2.2.2.2), (r3.1), (r3.2)) : Int32 × (Nat → Int64) × (Nat → Int32) × (Nat → Int32) × (Nat → Int64) × (Nat → Int32)) = some _ from hf)
      exact hret _ _ _ eX11_judge_86
    have L8 : ∀ (nL8 : Nat) (s4 : Int32 × Int32 × (Nat → Int64) × (Nat → Int32) × (Nat → Int32)), lp (fB_Mo_judge_23 v0 p1 r3) nL8 s4 = some q5 → vV x 5 0 0 (W_Mo (z_g x) a0 o0 (gMo_ints v0) (gMo_told v0) (gMo_postX v0) (gMo_postStrong v0) (gMo_atRow v0) (gMo_heights v0) (s4.2.2.1) (s4.2.2.2.1) (gMo_text v0) (gMo_said v0) (gMo_readTold v0) (gMo_readX v0) (gMo_readStrong v0) (gMo_readRow v0) (s4.2.2.2.2) (r3.1) (r3.2) (gMo_worst v0) (gMo_logRow v0) (gMo_images v0) (gMo_isKept v0)) 23 [(0, .ref (a0 o0)), (1, .int p1), (2, .int (s4.1)), (3, .int (s4.2.1))] [] := by
      intro nL8
      induction nL8 with
      | zero => intro s4 hq; cases hq
      | succ nL8 ihL8 =>
        intro s4 hbL8
        rw [lp_succ, fB_Mo_judge_23] at hbL8
        refine r_iload_n C eX11_judge_23 3 rfl rfl ?_
        refine r_aload_n C eX11_judge_24 0 rfl rfl ?_
        refine r_get (v := .int ((gMo_ints v0) 30)) C eX11_judge_25 FX11_409 0 rfl rfl ?_
        refine r_icmp_ge C eX11_judge_28 (fun c9 => ?_) (fun c9 => ?_)
        · rw [if_pos c9] at hbL8
          obtain rfl := Option.some.inj hbL8
          refine r_sub (lv' := [(0, .ref (a0 o0)), (2, .int (s4.1))]) [0, 2] rfl ?_
          exact J7
        · rw [if_neg c9] at hbL8
          refine r_iload_n C eX11_judge_31 2 rfl rfl ?_
          refine r_if_ge C eX11_judge_32 (fun c10 => ?_) (fun c10 => ?_)
          · rw [if_pos c10] at hbL8
            obtain rfl := Option.some.inj hbL8
            refine r_sub (lv' := [(0, .ref (a0 o0)), (2, .int (s4.1))]) [0, 2] rfl ?_
            exact J7
          · rw [if_neg c10] at hbL8
            refine r_aload_n C eX11_judge_35 0 rfl rfl ?_
            refine r_get (v := .ref (a0 (o0 + 6))) C eX11_judge_36 FX11_25 0 rfl rfl ?_
            refine r_iconst C (v := 0) eX11_judge_39 (by decide) ?_
            refine r_laldN C eX11_judge_40 6 0 (by decide) rfl ((s4.2.2.1) 0) rfl ?_
            refine r_aload_n C eX11_judge_41 0 rfl rfl ?_
            refine r_get (v := .ref (a0 (o0 + 17))) C eX11_judge_42 FX11_63 0 rfl rfl ?_
            refine r_iload_n C eX11_judge_45 3 rfl rfl ?_
            obtain ⟨hb11, hbL8⟩ := zchk hbL8
            refine r_iald C eX11_judge_46 17 rfl (inb_in hb11) ((gMo_logRow v0) (ix (s4.2.1))) rfl ?_
            refine r_i2l C eX11_judge_47 ?_
            refine r_lsub C eX11_judge_48 ?_
            refine r_S_l (ws' := W_Mo (z_g x) a0 o0 (gMo_ints v0) (gMo_told v0) (gMo_postX v0) (gMo_postStrong v0) (gMo_atRow v0) (gMo_heights v0) (s4.2.2.1) (s4.2.2.2.1) (gMo_text v0) (gMo_said v0) (gMo_readTold v0) (gMo_readX v0) (gMo_readStrong v0) (gMo_readRow v0) (s4.2.2.2.2) (r3.1) (r3.2) (gMo_worst v0) (gMo_logRow v0) (gMo_images v0) (gMo_isKept v0)) C (c_Mo_size (z_l x) (z_g x)  (((s4.2.2.1) 0) - ((gMo_logRow v0) (ix (s4.2.1))).toInt64) _ rfl) eX11_judge_49 MX11_236 [] rfl rfl rfl rfl [0, 1, 2, 3, 4, 5, 6, 7, 8, 9, 10, 11, 12, 13, 14, 15, 16, 17, 18, 19] rfl ⟨rfl, rfl, rfl, rfl, rfl, rfl, rfl, rfl, rfl, rfl, rfl, rfl, rfl, rfl, rfl, rfl, rfl, rfl, rfl, rfl, trivial⟩ 20 rfl rfl rfl rfl rfl rfl ?_
            refine r_iload_n C eX11_judge_52 1 rfl rfl ?_
            refine r_i2l C eX11_judge_53 ?_
            obtain ⟨w12, hw12, hbL8⟩ := zlet_of hbL8
            have J13 : vV x 5 0 0 (W_Mo (z_g x) a0 o0 (gMo_ints v0) (gMo_told v0) (gMo_postX v0) (gMo_postStrong v0) (gMo_atRow v0) (gMo_heights v0) (s4.2.2.1) (s4.2.2.2.1) (gMo_text v0) (gMo_said v0) (gMo_readTold v0) (gMo_readX v0) (gMo_readStrong v0) (gMo_readRow v0) (s4.2.2.2.2) (r3.1) (r3.2) (gMo_worst v0) (gMo_logRow v0) (gMo_images v0) (gMo_isKept v0)) 63 [(0, .ref (a0 o0)), (1, .int p1), (3, .int (s4.2.1))] [.int w12] := by
              refine r_istore_n C [(2, .int w12), (0, .ref (a0 o0)), (1, .int p1), (3, .int (s4.2.1))] eX11_judge_63 rfl (by decide) rfl ?_
              refine r_aload_n C eX11_judge_64 1 rfl rfl ?_
              refine r_iload_n C eX11_judge_65 3 rfl rfl ?_
              obtain ⟨r15, hr15, hbL8⟩ := zbind hbL8
              refine r_V_v (ws' := W_Mo (z_g x) a0 o0 (gMo_ints v0) (gMo_told v0) (gMo_postX v0) (gMo_postStrong v0) (gMo_atRow v0) (gMo_heights v0) r15 (s4.2.2.2.1) (gMo_text v0) (gMo_said v0) (gMo_readTold v0) (gMo_readX v0) (gMo_readStrong v0) (gMo_readRow v0) (s4.2.2.2.2) (r3.1) (r3.2) (gMo_worst v0) (gMo_logRow v0) (gMo_images v0) (gMo_isKept v0)) C (c_Mo_steer (z_l x) (z_g x) a0 o0 ((gMo_ints v0), (gMo_told v0), (gMo_postX v0), (gMo_postStrong v0), (gMo_atRow v0), (gMo_heights v0), (s4.2.2.1), (s4.2.2.2.1), (gMo_text v0), (gMo_said v0), (gMo_readTold v0), (gMo_readX v0), (gMo_readStrong v0), (gMo_readRow v0), (s4.2.2.2.2), (r3.1), (r3.2), (gMo_worst v0), (gMo_logRow v0), (gMo_images v0), (gMo_isKept v0)) (s4.2.1) r15 hr15) eX11_judge_66 MX11_315 ⟨0, 11, _, _, rfl, rfl, rfl⟩ [0, 1, 2, 3, 4, 5, 6, 7, 8, 9, 10, 11, 12, 13, 14, 15, 16, 17, 18, 19] rfl rfl rfl rfl [] rfl trivial 20 rfl rfl rfl rfl rfl rfl ?_
              refine r_aload_n C eX11_judge_69 1 rfl rfl ?_
              obtain ⟨r16, hr16, hbL8⟩ := zbind hbL8
              refine r_V_i (ws' := W_Mo (z_g x) a0 o0 (gMo_ints v0) (gMo_told v0) (gMo_postX v0) (gMo_postStrong v0) (gMo_atRow v0) (gMo_heights v0) (r16.2.1) (r16.2.2.1) (gMo_text v0) (gMo_said v0) (gMo_readTold v0) (gMo_readX v0) (gMo_readStrong v0) (gMo_readRow v0) (r16.2.2.2) (r3.1) (r3.2) (gMo_worst v0) (gMo_logRow v0) (gMo_images v0) (gMo_isKept v0)) C (c_Mo_second (z_l x) (z_g x) a0 o0 ((gMo_ints v0), (gMo_told v0), (gMo_postX v0), (gMo_postStrong v0), (gMo_atRow v0), (gMo_heights v0), r15, (s4.2.2.2.1), (gMo_text v0), (gMo_said v0), (gMo_readTold v0), (gMo_readX v0), (gMo_readStrong v0), (gMo_readRow v0), (s4.2.2.2.2), (r3.1), (r3.2), (gMo_worst v0), (gMo_logRow v0), (gMo_images v0), (gMo_isKept v0))  r16 hr16) eX11_judge_70 MX11_312 ⟨0, 11, _, _, rfl, rfl, rfl⟩ [0, 1, 2, 3, 4, 5, 6, 7, 8, 9, 10, 11, 12, 13, 14, 15, 16, 17, 18, 19] rfl rfl rfl rfl [] rfl trivial 20 rfl rfl rfl rfl rfl rfl ?_
              refine r_istore C [(4, .int (r16.1)), (2, .int w12), (0, .ref (a0 o0)), (1, .int p1), (3, .int (s4.2.1))] eX11_judge_73 (by decide) rfl ?_
              refine r_iinc C (v := ((s4.2.1) + 1)) [(3, .int ((s4.2.1) + 1)), (4, .int (r16.1)), (2, .int w12), (0, .ref (a0 o0)), (1, .int p1)] eX11_judge_75 4 rfl rfl (by decide) rfl ?_
              refine r_goto C eX11_judge_78 ?_
              refine r_sub (lv' := [(0, .ref (a0 o0)), (1, .int p1), (2, .int w12), (3, .int ((s4.2.1) + 1))]) [3, 4, 2, 0] rfl ?_
              have hc := ihL8 (w12, ((s4.2.1) + 1), (r16.2.1), (r16.2.2.1), (r16.2.2.2)) hbL8
              exact hc
            refine r_lcmp_le C eX11_judge_54 eX11_judge_55 (fun c14 => ?_) (fun c14 => ?_)
            · rw [if_pos c14] at hw12
              refine r_iconst C (v := (-1)) eX11_judge_62 (by decide) ?_
              subst hw12
              refine r_sub (lv' := [(0, .ref (a0 o0)), (1, .int p1), (3, .int (s4.2.1))]) [0, 1, 3] rfl ?_
              exact J13 
            · rw [if_neg c14] at hw12
              refine r_iload_n C eX11_judge_58 3 rfl rfl ?_
              refine r_goto C eX11_judge_59 ?_
              subst hw12
              refine r_sub (lv' := [(0, .ref (a0 o0)), (1, .int p1), (3, .int (s4.2.1))]) [0, 1, 3] rfl ?_
              exact J13 
    refine r_sub (lv' := [(0, .ref (a0 o0)), (1, .int p1), (2, .int (-1)), (3, .int 0)]) [2, 3, 1, 0] rfl ?_
    have hc := L8 LF ((-1), 0, (gMo_ship v0), (gMo_lines v0), (gMo_parting v0)) h6
    exact hc
  · rw [if_pos c2] at hf
    refine r_ldc C (v := (-1000000002)) eX11_judge_12 q1183 ?_
    obtain rfl := Option.some.inj (show some (((-1000000002), (gMo_ship v0), (gMo_lines v0), (gMo_parting v0), (gMo_wasShip v0), (gMo_wasLines v0)) : Int32 × (Nat → Int64) × (Nat → Int32) × (Nat → Int32) × (Nat → Int64) × (Nat → Int32)) = some _ from hf)
    exact hret _ _ _ eX11_judge_14
theorem eX11_keep_0 : zd 1 cX11_keep 0 1 (.iload_n 1) := ⟨by decide +kernel, rfl⟩
theorem eX11_keep_1 : zd 1 cX11_keep 1 2 (.i2l) := ⟨by decide +kernel, rfl⟩
theorem eX11_keep_2 : zd 1 cX11_keep 2 3 (.lconst 0) := ⟨by decide +kernel, rfl⟩
theorem eX11_keep_3 : zd 1 cX11_keep 3 4 (.lconst 1) := ⟨by decide +kernel, rfl⟩
theorem eX11_keep_4 : zd 3 cX11_keep 4 7 (.invokestatic 86) := ⟨by decide +kernel, rfl⟩
theorem eX11_keep_7 : zdi cX11_keep 7 10 13 (.ifCond .ne) := ⟨6, by decide +kernel, rfl, by decide⟩
theorem eX11_keep_10 : zd 2 cX11_keep 10 12 (.ldc 202) := ⟨by decide +kernel, rfl⟩
theorem eX11_keep_12 : zd 1 cX11_keep 12 13 (.ireturn) := ⟨by decide +kernel, rfl⟩
theorem eX11_keep_13 : zd 1 cX11_keep 13 14 (.iconst 0) := ⟨by decide +kernel, rfl⟩
theorem eX11_keep_14 : zd 1 cX11_keep 14 15 (.istore_n 2) := ⟨by decide +kernel, rfl⟩
theorem eX11_keep_15 : zd 1 cX11_keep 15 16 (.iload_n 2) := ⟨by decide +kernel, rfl⟩
theorem eX11_keep_16 : zd 2 cX11_keep 16 18 (.bipush 13) := ⟨by decide +kernel, rfl⟩
theorem eX11_keep_18 : zdi cX11_keep 18 21 44 (.if_icmp .ge) := ⟨26, by decide +kernel, rfl, by decide⟩
theorem eX11_keep_21 : zd 1 cX11_keep 21 22 (.aload_n 0) := ⟨by decide +kernel, rfl⟩
theorem eX11_keep_22 : zd 3 cX11_keep 22 25 (.getfield 66) := ⟨by decide +kernel, rfl⟩
theorem eX11_keep_25 : zd 2 cX11_keep 25 27 (.bipush 40) := ⟨by decide +kernel, rfl⟩
theorem eX11_keep_27 : zd 1 cX11_keep 27 28 (.iload_n 1) := ⟨by decide +kernel, rfl⟩
theorem eX11_keep_28 : zd 1 cX11_keep 28 29 (.imul) := ⟨by decide +kernel, rfl⟩
theorem eX11_keep_29 : zd 1 cX11_keep 29 30 (.iload_n 2) := ⟨by decide +kernel, rfl⟩
theorem eX11_keep_30 : zd 1 cX11_keep 30 31 (.iadd) := ⟨by decide +kernel, rfl⟩
theorem eX11_keep_31 : zd 1 cX11_keep 31 32 (.aload_n 0) := ⟨by decide +kernel, rfl⟩
theorem eX11_keep_32 : zd 3 cX11_keep 32 35 (.getfield 25) := ⟨by decide +kernel, rfl⟩
theorem eX11_keep_35 : zd 1 cX11_keep 35 36 (.iload_n 2) := ⟨by decide +kernel, rfl⟩
theorem eX11_keep_36 : zd 1 cX11_keep 36 37 (.laload) := ⟨by decide +kernel, rfl⟩
theorem eX11_keep_37 : zd 1 cX11_keep 37 38 (.lastore) := ⟨by decide +kernel, rfl⟩
theorem eX11_keep_38 : zd 3 cX11_keep 38 41 (.iinc 2 1) := ⟨by decide +kernel, rfl⟩
theorem eX11_keep_41 : zdi cX11_keep 41 44 15 (.goto) := ⟨(-26), by decide +kernel, rfl, by decide⟩
theorem eX11_keep_44 : zd 1 cX11_keep 44 45 (.iconst 0) := ⟨by decide +kernel, rfl⟩
theorem eX11_keep_45 : zd 1 cX11_keep 45 46 (.istore_n 2) := ⟨by decide +kernel, rfl⟩
theorem eX11_keep_46 : zd 1 cX11_keep 46 47 (.iload_n 2) := ⟨by decide +kernel, rfl⟩
theorem eX11_keep_47 : zd 2 cX11_keep 47 49 (.bipush 24) := ⟨by decide +kernel, rfl⟩
theorem eX11_keep_49 : zdi cX11_keep 49 52 79 (.if_icmp .ge) := ⟨30, by decide +kernel, rfl, by decide⟩
theorem eX11_keep_52 : zd 1 cX11_keep 52 53 (.aload_n 0) := ⟨by decide +kernel, rfl⟩
theorem eX11_keep_53 : zd 3 cX11_keep 53 56 (.getfield 66) := ⟨by decide +kernel, rfl⟩
theorem eX11_keep_56 : zd 2 cX11_keep 56 58 (.bipush 40) := ⟨by decide +kernel, rfl⟩
theorem eX11_keep_58 : zd 1 cX11_keep 58 59 (.iload_n 1) := ⟨by decide +kernel, rfl⟩
theorem eX11_keep_59 : zd 1 cX11_keep 59 60 (.imul) := ⟨by decide +kernel, rfl⟩
theorem eX11_keep_60 : zd 2 cX11_keep 60 62 (.bipush 13) := ⟨by decide +kernel, rfl⟩
theorem eX11_keep_62 : zd 1 cX11_keep 62 63 (.iadd) := ⟨by decide +kernel, rfl⟩
theorem eX11_keep_63 : zd 1 cX11_keep 63 64 (.iload_n 2) := ⟨by decide +kernel, rfl⟩
theorem eX11_keep_64 : zd 1 cX11_keep 64 65 (.iadd) := ⟨by decide +kernel, rfl⟩
theorem eX11_keep_65 : zd 1 cX11_keep 65 66 (.aload_n 0) := ⟨by decide +kernel, rfl⟩
theorem eX11_keep_66 : zd 3 cX11_keep 66 69 (.getfield 29) := ⟨by decide +kernel, rfl⟩
theorem eX11_keep_69 : zd 1 cX11_keep 69 70 (.iload_n 2) := ⟨by decide +kernel, rfl⟩
theorem eX11_keep_70 : zd 1 cX11_keep 70 71 (.iaload) := ⟨by decide +kernel, rfl⟩
theorem eX11_keep_71 : zd 1 cX11_keep 71 72 (.i2l) := ⟨by decide +kernel, rfl⟩
theorem eX11_keep_72 : zd 1 cX11_keep 72 73 (.lastore) := ⟨by decide +kernel, rfl⟩
theorem eX11_keep_73 : zd 3 cX11_keep 73 76 (.iinc 2 1) := ⟨by decide +kernel, rfl⟩
theorem eX11_keep_76 : zdi cX11_keep 76 79 46 (.goto) := ⟨(-30), by decide +kernel, rfl, by decide⟩
theorem eX11_keep_79 : zd 1 cX11_keep 79 80 (.aload_n 0) := ⟨by decide +kernel, rfl⟩
theorem eX11_keep_80 : zd 3 cX11_keep 80 83 (.getfield 66) := ⟨by decide +kernel, rfl⟩
theorem eX11_keep_83 : zd 2 cX11_keep 83 85 (.bipush 40) := ⟨by decide +kernel, rfl⟩
theorem eX11_keep_85 : zd 1 cX11_keep 85 86 (.iload_n 1) := ⟨by decide +kernel, rfl⟩
theorem eX11_keep_86 : zd 1 cX11_keep 86 87 (.imul) := ⟨by decide +kernel, rfl⟩
theorem eX11_keep_87 : zd 2 cX11_keep 87 89 (.bipush 37) := ⟨by decide +kernel, rfl⟩
theorem eX11_keep_89 : zd 1 cX11_keep 89 90 (.iadd) := ⟨by decide +kernel, rfl⟩
theorem eX11_keep_90 : zd 1 cX11_keep 90 91 (.aload_n 0) := ⟨by decide +kernel, rfl⟩
theorem eX11_keep_91 : zd 3 cX11_keep 91 94 (.getfield 331) := ⟨by decide +kernel, rfl⟩
theorem eX11_keep_94 : zd 1 cX11_keep 94 95 (.i2l) := ⟨by decide +kernel, rfl⟩
theorem eX11_keep_95 : zd 1 cX11_keep 95 96 (.lastore) := ⟨by decide +kernel, rfl⟩
theorem eX11_keep_96 : zd 1 cX11_keep 96 97 (.aload_n 0) := ⟨by decide +kernel, rfl⟩
theorem eX11_keep_97 : zd 3 cX11_keep 97 100 (.getfield 69) := ⟨by decide +kernel, rfl⟩
theorem eX11_keep_100 : zd 1 cX11_keep 100 101 (.iload_n 1) := ⟨by decide +kernel, rfl⟩
theorem eX11_keep_101 : zd 1 cX11_keep 101 102 (.iconst 1) := ⟨by decide +kernel, rfl⟩
theorem eX11_keep_102 : zd 1 cX11_keep 102 103 (.bastore) := ⟨by decide +kernel, rfl⟩
theorem eX11_keep_103 : zd 1 cX11_keep 103 104 (.iconst 1) := ⟨by decide +kernel, rfl⟩
theorem eX11_keep_104 : zd 1 cX11_keep 104 105 (.ireturn) := ⟨by decide +kernel, rfl⟩
noncomputable def fB_Mo_keep_15 (v0 : tMo) (p1 : Int32) (ih : (Int32 × (Nat → Int64)) → Option (Int32 × (Nat → Int64))) (s3 : Int32 × (Nat → Int64)) : Option (Int32 × (Nat → Int64)) := (if 13 ≤ (s3.1) then (some ((s3.1), (s3.2))) else (if inb (s3.1) 13 = true then (if inb ((40 * p1) + (s3.1)) 80 = true then (ih (((s3.1) + 1), (vp_updL (s3.2) (ix ((40 * p1) + (s3.1))) ((gMo_ship v0) (ix (s3.1)))))) else none) else none))
noncomputable def fB_Mo_keep_46 (v0 : tMo) (p1 : Int32) (ih : (Int32 × (Nat → Int64)) → Option (Int32 × (Nat → Int64))) (s11 : Int32 × (Nat → Int64)) : Option (Int32 × (Nat → Int64)) := (if 24 ≤ (s11.1) then (some ((s11.1), (s11.2))) else (if inb (s11.1) 24 = true then (zlet ((gMo_lines v0) (ix (s11.1))).toInt64 (fun (z18 : Int64) => (if inb (((40 * p1) + 13) + (s11.1)) 80 = true then (ih (((s11.1) + 1), (vp_updL (s11.2) (ix (((40 * p1) + 13) + (s11.1))) z18))) else none))) else none))
noncomputable def f_Mo_keep (v0 : tMo) (p1 : Int32) : Option (Int32 × (Nat → Int64) × (Nat → Int32)) := (if (f_Mo_in p1.toInt64 0 1) = 0 then (some ((-1000000001), (gMo_images v0), (gMo_isKept v0))) else (Option.bind (lp (fB_Mo_keep_15 v0 p1) LF (0, (gMo_images v0))) (fun (q4 : Int32 × (Nat → Int64)) => (Option.bind (lp (fB_Mo_keep_46 v0 p1) LF (0, (q4.2))) (fun (q12 : Int32 × (Nat → Int64)) => (zlet ((gMo_ints v0) 26).toInt64 (fun (z20 : Int64) => (if inb ((40 * p1) + 37) 80 = true then (if inb p1 2 = true then (some (1, (vp_updL (q12.2) (ix ((40 * p1) + 37)) z20), (upd (gMo_isKept v0) (ix p1) (vp_nar .boolean 1)))) else none) else none))))))))
abbrev rm_Mo_keep : Room := { frames := 1, cells := 0, slots := 0, locals := 25 }
set_option maxHeartbeats 4000000 in
set_option maxRecDepth 100000 in
theorem c_Mo_keep (l : Launch) (g : zGl) (a0 : Nat → Nat) (o0 : Nat) (v0 : tMo) (p1 : Int32) (out : Int32 × (Nat → Int64) × (Nat → Int32)) (hf : f_Mo_keep v0 p1 = some out) : zMi l yX11_keep cX11_keep 3 rm_Mo_keep g [.ref (a0 o0), .int p1] (W_Mo g a0 o0 (gMo_ints v0) (gMo_told v0) (gMo_postX v0) (gMo_postStrong v0) (gMo_atRow v0) (gMo_heights v0) (gMo_ship v0) (gMo_lines v0) (gMo_text v0) (gMo_said v0) (gMo_readTold v0) (gMo_readX v0) (gMo_readStrong v0) (gMo_readRow v0) (gMo_parting v0) (gMo_wasShip v0) (gMo_wasLines v0) (gMo_worst v0) (gMo_logRow v0) (gMo_images v0) (gMo_isKept v0)) (out.1) (W_Mo g a0 o0 (gMo_ints v0) (gMo_told v0) (gMo_postX v0) (gMo_postStrong v0) (gMo_atRow v0) (gMo_heights v0) (gMo_ship v0) (gMo_lines v0) (gMo_text v0) (gMo_said v0) (gMo_readTold v0) (gMo_readX v0) (gMo_readStrong v0) (gMo_readRow v0) (gMo_parting v0) (gMo_wasShip v0) (gMo_wasLines v0) (gMo_worst v0) (gMo_logRow v0) (out.2.1) (out.2.2)) := by
  refine zMi_of (lv := [(0, .ref (a0 o0)), (1, .int p1)]) (by decide) (Nat.le_of_ble_eq_true rfl) rfl (fun x hl hg C hret => ?_)
  subst hl; subst hg
  rw [f_Mo_keep] at hf
  refine r_iload_n C eX11_keep_0 1 rfl rfl ?_
  refine r_i2l C eX11_keep_1 ?_
  refine r_lconst C (v := 0) eX11_keep_2 (by decide) ?_
  refine r_lconst C (v := 1) eX11_keep_3 (by decide) ?_
  refine r_S_z (ws' := W_Mo (z_g x) a0 o0 (gMo_ints v0) (gMo_told v0) (gMo_postX v0) (gMo_postStrong v0) (gMo_atRow v0) (gMo_heights v0) (gMo_ship v0) (gMo_lines v0) (gMo_text v0) (gMo_said v0) (gMo_readTold v0) (gMo_readX v0) (gMo_readStrong v0) (gMo_readRow v0) (gMo_parting v0) (gMo_wasShip v0) (gMo_wasLines v0) (gMo_worst v0) (gMo_logRow v0) (gMo_images v0) (gMo_isKept v0)) C (c_Mo_in (z_l x) (z_g x)  p1.toInt64 0 1 _ rfl) eX11_keep_4 MX11_86 [] rfl rfl rfl rfl [0, 1, 2, 3, 4, 5, 6, 7, 8, 9, 10, 11, 12, 13, 14, 15, 16, 17, 18, 19] rfl ⟨rfl, rfl, rfl, rfl, rfl, rfl, rfl, rfl, rfl, rfl, rfl, rfl, rfl, rfl, rfl, rfl, rfl, rfl, rfl, rfl, trivial⟩ 20 rfl rfl rfl rfl rfl rfl (fun zb1 => ?_)
  refine r_if_ne C eX11_keep_7 (fun c2 => ?_) (fun c2 => ?_)
  · rw [if_neg c2] at hf
    refine r_iconst C (v := 0) eX11_keep_13 (by decide) ?_
    refine r_istore_n C [(2, .int 0), (0, .ref (a0 o0)), (1, .int p1)] eX11_keep_14 rfl (by decide) rfl ?_
    obtain ⟨q4, h5, hf⟩ := zbind hf
    have J6 : vV x 3 0 0 (W_Mo (z_g x) a0 o0 (gMo_ints v0) (gMo_told v0) (gMo_postX v0) (gMo_postStrong v0) (gMo_atRow v0) (gMo_heights v0) (gMo_ship v0) (gMo_lines v0) (gMo_text v0) (gMo_said v0) (gMo_readTold v0) (gMo_readX v0) (gMo_readStrong v0) (gMo_readRow v0) (gMo_parting v0) (gMo_wasShip v0) (gMo_wasLines v0) (gMo_worst v0) (gMo_logRow v0) (q4.2) (gMo_isKept v0)) 44 [(0, .ref (a0 o0)), (1, .int p1)] [] := by
      refine r_iconst C (v := 0) eX11_keep_44 (by decide) ?_
      refine r_istore_n C [(2, .int 0), (0, .ref (a0 o0)), (1, .int p1)] eX11_keep_45 rfl (by decide) rfl ?_
      obtain ⟨q12, h13, hf⟩ := zbind hf
      have J14 : vV x 3 0 0 (W_Mo (z_g x) a0 o0 (gMo_ints v0) (gMo_told v0) (gMo_postX v0) (gMo_postStrong v0) (gMo_atRow v0) (gMo_heights v0) (gMo_ship v0) (gMo_lines v0) (gMo_text v0) (gMo_said v0) (gMo_readTold v0) (gMo_readX v0) (gMo_readStrong v0) (gMo_readRow v0) (gMo_parting v0) (gMo_wasShip v0) (gMo_wasLines v0) (gMo_worst v0) (gMo_logRow v0) (q12.2) (gMo_isKept v0)) 79 [(0, .ref (a0 o0)), (1, .int p1)] [] := by
        refine r_aload_n C eX11_keep_79 0 rfl rfl ?_
        refine r_get (v := .ref (a0 (o0 + 18))) C eX11_keep_80 FX11_66 0 rfl rfl ?_
        refine r_bipush C (v := 40) eX11_keep_83 (by decide) ?_
        refine r_iload_n C eX11_keep_85 1 rfl rfl ?_
        refine r_imul C eX11_keep_86 ?_
        refine r_bipush C (v := 37) eX11_keep_87 (by decide) ?_
        refine r_iadd C eX11_keep_89 ?_
        refine r_aload_n C eX11_keep_90 0 rfl rfl ?_
        refine r_get (v := .int ((gMo_ints v0) 26)) C eX11_keep_91 FX11_331 0 rfl rfl ?_
        refine r_i2l C eX11_keep_94 ?_
        obtain ⟨z20, hz20, hf⟩ := zlet_of hf
        refine r_naml hz20 ?_
        obtain ⟨hb21, hf⟩ := zchk hf
        refine r_last (ws' := W_Mo (z_g x) a0 o0 (gMo_ints v0) (gMo_told v0) (gMo_postX v0) (gMo_postStrong v0) (gMo_atRow v0) (gMo_heights v0) (gMo_ship v0) (gMo_lines v0) (gMo_text v0) (gMo_said v0) (gMo_readTold v0) (gMo_readX v0) (gMo_readStrong v0) (gMo_readRow v0) (gMo_parting v0) (gMo_wasShip v0) (gMo_wasLines v0) (gMo_worst v0) (gMo_logRow v0) (vp_updL (q12.2) (ix ((40 * p1) + 37)) z20) (gMo_isKept v0)) C eX11_keep_95 18 rfl (inb_in hb21) rfl ?_
        refine r_aload_n C eX11_keep_96 0 rfl rfl ?_
        refine r_get (v := .ref (a0 (o0 + 19))) C eX11_keep_97 FX11_69 0 rfl rfl ?_
        refine r_iload_n C eX11_keep_100 1 rfl rfl ?_
        refine r_iconst C (v := 1) eX11_keep_101 (by decide) ?_
        obtain ⟨hb22, hf⟩ := zchk hf
        refine r_zast (ws' := W_Mo (z_g x) a0 o0 (gMo_ints v0) (gMo_told v0) (gMo_postX v0) (gMo_postStrong v0) (gMo_atRow v0) (gMo_heights v0) (gMo_ship v0) (gMo_lines v0) (gMo_text v0) (gMo_said v0) (gMo_readTold v0) (gMo_readX v0) (gMo_readStrong v0) (gMo_readRow v0) (gMo_parting v0) (gMo_wasShip v0) (gMo_wasLines v0) (gMo_worst v0) (gMo_logRow v0) (vp_updL (q12.2) (ix ((40 * p1) + 37)) z20) (upd (gMo_isKept v0) (ix p1) (vp_nar .boolean 1))) C eX11_keep_102 19 rfl (inb_in hb22) rfl ?_
        refine r_iconst C (v := 1) eX11_keep_103 (by decide) ?_
        obtain rfl := Option.some.inj (show some ((1, (vp_updL (q12.2) (ix ((40 * p1) + 37)) z20), (upd (gMo_isKept v0) (ix p1) (vp_nar .boolean 1))) : Int32 × (Nat → Int64) × (Nat → Int32)) = some _ from hf)
        exact hret _ _ _ eX11_keep_104
      have L15 : ∀ (nL15 : Nat) (s11 : Int32 × (Nat → Int64)), lp (fB_Mo_keep_46 v0 p1) nL15 s11 = some q12 → vV x 3 0 0 (W_Mo (z_g x) a0 o0 (gMo_ints v0) (gMo_told v0) (gMo_postX v0) (gMo_postStrong v0) (gMo_atRow v0) (gMo_heights v0) (gMo_ship v0) (gMo_lines v0) (gMo_text v0) (gMo_said v0) (gMo_readTold v0) (gMo_readX v0) (gMo_readStrong v0) (gMo_readRow v0) (gMo_parting v0) (gMo_wasShip v0) (gMo_wasLines v0) (gMo_worst v0) (gMo_logRow v0) (s11.2) (gMo_isKept v0)) 46 [(0, .ref (a0 o0)), (1, .int p1), (2, .int (s11.1))] [] := by
        intro nL15
        induction nL15 with
        | zero => intro s11 hq; cases hq
        | succ nL15 ihL15 =>
          intro s11 hbL15
          rw [lp_succ, fB_Mo_keep_46] at hbL15
          refine r_iload_n C eX11_keep_46 2 rfl rfl ?_
          refine r_bipush C (v := 24) eX11_keep_47 (by decide) ?_
          refine r_icmp_ge C eX11_keep_49 (fun c16 => ?_) (fun c16 => ?_)
          · rw [if_pos c16] at hbL15
            obtain rfl := Option.some.inj hbL15
            refine r_sub (lv' := [(0, .ref (a0 o0)), (1, .int p1)]) [0, 1] rfl ?_
            exact J14
          · rw [if_neg c16] at hbL15
            refine r_aload_n C eX11_keep_52 0 rfl rfl ?_
            refine r_get (v := .ref (a0 (o0 + 18))) C eX11_keep_53 FX11_66 0 rfl rfl ?_
            refine r_bipush C (v := 40) eX11_keep_56 (by decide) ?_
            refine r_iload_n C eX11_keep_58 1 rfl rfl ?_
            refine r_imul C eX11_keep_59 ?_
            refine r_bipush C (v := 13) eX11_keep_60 (by decide) ?_
            refine r_iadd C eX11_keep_62 ?_
            refine r_iload_n C eX11_keep_63 2 rfl rfl ?_
            refine r_iadd C eX11_keep_64 ?_
            refine r_aload_n C eX11_keep_65 0 rfl rfl ?_
            refine r_get (v := .ref (a0 (o0 + 7))) C eX11_keep_66 FX11_29 0 rfl rfl ?_
            refine r_iload_n C eX11_keep_69 2 rfl rfl ?_
            obtain ⟨hb17, hbL15⟩ := zchk hbL15
            refine r_iald C eX11_keep_70 7 rfl (inb_in hb17) ((gMo_lines v0) (ix (s11.1))) rfl ?_
            refine r_i2l C eX11_keep_71 ?_
            obtain ⟨z18, hz18, hbL15⟩ := zlet_of hbL15
            refine r_naml hz18 ?_
            obtain ⟨hb19, hbL15⟩ := zchk hbL15
            refine r_last (ws' := W_Mo (z_g x) a0 o0 (gMo_ints v0) (gMo_told v0) (gMo_postX v0) (gMo_postStrong v0) (gMo_atRow v0) (gMo_heights v0) (gMo_ship v0) (gMo_lines v0) (gMo_text v0) (gMo_said v0) (gMo_readTold v0) (gMo_readX v0) (gMo_readStrong v0) (gMo_readRow v0) (gMo_parting v0) (gMo_wasShip v0) (gMo_wasLines v0) (gMo_worst v0) (gMo_logRow v0) (vp_updL (s11.2) (ix (((40 * p1) + 13) + (s11.1))) z18) (gMo_isKept v0)) C eX11_keep_72 18 rfl (inb_in hb19) rfl ?_
            refine r_iinc C (v := ((s11.1) + 1)) [(2, .int ((s11.1) + 1)), (0, .ref (a0 o0)), (1, .int p1)] eX11_keep_73 2 rfl rfl (by decide) rfl ?_
            refine r_goto C eX11_keep_76 ?_
            refine r_sub (lv' := [(0, .ref (a0 o0)), (1, .int p1), (2, .int ((s11.1) + 1))]) [1, 2, 0] rfl ?_
            have hc := ihL15 (((s11.1) + 1), (vp_updL (s11.2) (ix (((40 * p1) + 13) + (s11.1))) z18)) hbL15
            exact hc
      refine r_sub (lv' := [(0, .ref (a0 o0)), (1, .int p1), (2, .int 0)]) [1, 2, 0] rfl ?_
      have hc := L15 LF (0, (q4.2)) h13
      exact hc
    have L7 : ∀ (nL7 : Nat) (s3 : Int32 × (Nat → Int64)), lp (fB_Mo_keep_15 v0 p1) nL7 s3 = some q4 → vV x 3 0 0 (W_Mo (z_g x) a0 o0 (gMo_ints v0) (gMo_told v0) (gMo_postX v0) (gMo_postStrong v0) (gMo_atRow v0) (gMo_heights v0) (gMo_ship v0) (gMo_lines v0) (gMo_text v0) (gMo_said v0) (gMo_readTold v0) (gMo_readX v0) (gMo_readStrong v0) (gMo_readRow v0) (gMo_parting v0) (gMo_wasShip v0) (gMo_wasLines v0) (gMo_worst v0) (gMo_logRow v0) (s3.2) (gMo_isKept v0)) 15 [(0, .ref (a0 o0)), (1, .int p1), (2, .int (s3.1))] [] := by
      intro nL7
      induction nL7 with
      | zero => intro s3 hq; cases hq
      | succ nL7 ihL7 =>
        intro s3 hbL7
        rw [lp_succ, fB_Mo_keep_15] at hbL7
        refine r_iload_n C eX11_keep_15 2 rfl rfl ?_
        refine r_bipush C (v := 13) eX11_keep_16 (by decide) ?_
        refine r_icmp_ge C eX11_keep_18 (fun c8 => ?_) (fun c8 => ?_)
        · rw [if_pos c8] at hbL7
          obtain rfl := Option.some.inj hbL7
          refine r_sub (lv' := [(0, .ref (a0 o0)), (1, .int p1)]) [0, 1] rfl ?_
          exact J6
        · rw [if_neg c8] at hbL7
          refine r_aload_n C eX11_keep_21 0 rfl rfl ?_
          refine r_get (v := .ref (a0 (o0 + 18))) C eX11_keep_22 FX11_66 0 rfl rfl ?_
          refine r_bipush C (v := 40) eX11_keep_25 (by decide) ?_
          refine r_iload_n C eX11_keep_27 1 rfl rfl ?_
          refine r_imul C eX11_keep_28 ?_
          refine r_iload_n C eX11_keep_29 2 rfl rfl ?_
          refine r_iadd C eX11_keep_30 ?_
          refine r_aload_n C eX11_keep_31 0 rfl rfl ?_
          refine r_get (v := .ref (a0 (o0 + 6))) C eX11_keep_32 FX11_25 0 rfl rfl ?_
          refine r_iload_n C eX11_keep_35 2 rfl rfl ?_
          obtain ⟨hb9, hbL7⟩ := zchk hbL7
          refine r_lald C eX11_keep_36 6 rfl (inb_in hb9) ((gMo_ship v0) (ix (s3.1))) rfl ?_
          obtain ⟨hb10, hbL7⟩ := zchk hbL7
          refine r_last (ws' := W_Mo (z_g x) a0 o0 (gMo_ints v0) (gMo_told v0) (gMo_postX v0) (gMo_postStrong v0) (gMo_atRow v0) (gMo_heights v0) (gMo_ship v0) (gMo_lines v0) (gMo_text v0) (gMo_said v0) (gMo_readTold v0) (gMo_readX v0) (gMo_readStrong v0) (gMo_readRow v0) (gMo_parting v0) (gMo_wasShip v0) (gMo_wasLines v0) (gMo_worst v0) (gMo_logRow v0) (vp_updL (s3.2) (ix ((40 * p1) + (s3.1))) ((gMo_ship v0) (ix (s3.1)))) (gMo_isKept v0)) C eX11_keep_37 18 rfl (inb_in hb10) rfl ?_
          refine r_iinc C (v := ((s3.1) + 1)) [(2, .int ((s3.1) + 1)), (0, .ref (a0 o0)), (1, .int p1)] eX11_keep_38 2 rfl rfl (by decide) rfl ?_
          refine r_goto C eX11_keep_41 ?_
          refine r_sub (lv' := [(0, .ref (a0 o0)), (1, .int p1), (2, .int ((s3.1) + 1))]) [1, 2, 0] rfl ?_
          have hc := ihL7 (((s3.1) + 1), (vp_updL (s3.2) (ix ((40 * p1) + (s3.1))) ((gMo_ship v0) (ix (s3.1))))) hbL7
          exact hc
    refine r_sub (lv' := [(0, .ref (a0 o0)), (1, .int p1), (2, .int 0)]) [1, 2, 0] rfl ?_
    have hc := L7 LF (0, (gMo_images v0)) h5
    exact hc
  · rw [if_pos c2] at hf
    refine r_ldc C (v := (-1000000001)) eX11_keep_10 q1276 ?_
    obtain rfl := Option.some.inj (show some (((-1000000001), (gMo_images v0), (gMo_isKept v0)) : Int32 × (Nat → Int64) × (Nat → Int32)) = some _ from hf)
    exact hret _ _ _ eX11_keep_12
