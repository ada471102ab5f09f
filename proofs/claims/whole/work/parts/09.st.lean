theorem eX10_rootOfSquares_0 : zd 1 cX10_rootOfSquares 0 1 (.iload_n 0) := ⟨by decide +kernel, rfl⟩
theorem eX10_rootOfSquares_1 : zd 1 cX10_rootOfSquares 1 2 (.i2l) := ⟨by decide +kernel, rfl⟩
theorem eX10_rootOfSquares_2 : zd 1 cX10_rootOfSquares 2 3 (.iload_n 0) := ⟨by decide +kernel, rfl⟩
theorem eX10_rootOfSquares_3 : zd 1 cX10_rootOfSquares 3 4 (.i2l) := ⟨by decide +kernel, rfl⟩
theorem eX10_rootOfSquares_4 : zd 1 cX10_rootOfSquares 4 5 (.lmul) := ⟨by decide +kernel, rfl⟩
theorem eX10_rootOfSquares_5 : zd 1 cX10_rootOfSquares 5 6 (.iload_n 1) := ⟨by decide +kernel, rfl⟩
theorem eX10_rootOfSquares_6 : zd 1 cX10_rootOfSquares 6 7 (.i2l) := ⟨by decide +kernel, rfl⟩
theorem eX10_rootOfSquares_7 : zd 1 cX10_rootOfSquares 7 8 (.iload_n 1) := ⟨by decide +kernel, rfl⟩
theorem eX10_rootOfSquares_8 : zd 1 cX10_rootOfSquares 8 9 (.i2l) := ⟨by decide +kernel, rfl⟩
theorem eX10_rootOfSquares_9 : zd 1 cX10_rootOfSquares 9 10 (.lmul) := ⟨by decide +kernel, rfl⟩
theorem eX10_rootOfSquares_10 : zd 1 cX10_rootOfSquares 10 11 (.ladd) := ⟨by decide +kernel, rfl⟩
theorem eX10_rootOfSquares_11 : zd 1 cX10_rootOfSquares 11 12 (.lstore_n 2) := ⟨by decide +kernel, rfl⟩
theorem eX10_rootOfSquares_12 : zd 1 cX10_rootOfSquares 12 13 (.iload_n 0) := ⟨by decide +kernel, rfl⟩
theorem eX10_rootOfSquares_13 : zd 1 cX10_rootOfSquares 13 14 (.i2l) := ⟨by decide +kernel, rfl⟩
theorem eX10_rootOfSquares_14 : zd 3 cX10_rootOfSquares 14 17 (.invokestatic 345) := ⟨by decide +kernel, rfl⟩
theorem eX10_rootOfSquares_17 : zd 1 cX10_rootOfSquares 17 18 (.iload_n 1) := ⟨by decide +kernel, rfl⟩
theorem eX10_rootOfSquares_18 : zd 1 cX10_rootOfSquares 18 19 (.i2l) := ⟨by decide +kernel, rfl⟩
theorem eX10_rootOfSquares_19 : zd 3 cX10_rootOfSquares 19 22 (.invokestatic 345) := ⟨by decide +kernel, rfl⟩
theorem eX10_rootOfSquares_22 : zd 1 cX10_rootOfSquares 22 23 (.ladd) := ⟨by decide +kernel, rfl⟩
theorem eX10_rootOfSquares_23 : zd 2 cX10_rootOfSquares 23 25 (.lstore 4) := ⟨by decide +kernel, rfl⟩
theorem eX10_rootOfSquares_25 : zd 1 cX10_rootOfSquares 25 26 (.iconst 0) := ⟨by decide +kernel, rfl⟩
theorem eX10_rootOfSquares_26 : zd 2 cX10_rootOfSquares 26 28 (.istore 6) := ⟨by decide +kernel, rfl⟩
theorem eX10_rootOfSquares_28 : zd 2 cX10_rootOfSquares 28 30 (.iload 6) := ⟨by decide +kernel, rfl⟩
theorem eX10_rootOfSquares_30 : zd 2 cX10_rootOfSquares 30 32 (.bipush 64) := ⟨by decide +kernel, rfl⟩
theorem eX10_rootOfSquares_32 : zdi cX10_rootOfSquares 32 35 76 (.if_icmp .ge) := ⟨44, by decide +kernel, rfl, by decide⟩
theorem eX10_rootOfSquares_35 : zd 2 cX10_rootOfSquares 35 37 (.lload 4) := ⟨by decide +kernel, rfl⟩
theorem eX10_rootOfSquares_37 : zd 1 cX10_rootOfSquares 37 38 (.lconst 0) := ⟨by decide +kernel, rfl⟩
theorem eX10_rootOfSquares_38 : zd 1 cX10_rootOfSquares 38 39 (.lcmp) := ⟨by decide +kernel, rfl⟩
theorem eX10_rootOfSquares_39 : zdi cX10_rootOfSquares 39 42 76 (.ifCond .le) := ⟨37, by decide +kernel, rfl, by decide⟩
theorem eX10_rootOfSquares_42 : zd 2 cX10_rootOfSquares 42 44 (.lload 4) := ⟨by decide +kernel, rfl⟩
theorem eX10_rootOfSquares_44 : zd 1 cX10_rootOfSquares 44 45 (.lload_n 2) := ⟨by decide +kernel, rfl⟩
theorem eX10_rootOfSquares_45 : zd 2 cX10_rootOfSquares 45 47 (.lload 4) := ⟨by decide +kernel, rfl⟩
theorem eX10_rootOfSquares_47 : zd 1 cX10_rootOfSquares 47 48 (.ldiv) := ⟨by decide +kernel, rfl⟩
theorem eX10_rootOfSquares_48 : zd 1 cX10_rootOfSquares 48 49 (.ladd) := ⟨by decide +kernel, rfl⟩
theorem eX10_rootOfSquares_49 : zd 3 cX10_rootOfSquares 49 52 (.ldc2_w 348) := ⟨by decide +kernel, rfl⟩
theorem eX10_rootOfSquares_52 : zd 1 cX10_rootOfSquares 52 53 (.ldiv) := ⟨by decide +kernel, rfl⟩
theorem eX10_rootOfSquares_53 : zd 2 cX10_rootOfSquares 53 55 (.lstore 7) := ⟨by decide +kernel, rfl⟩
theorem eX10_rootOfSquares_55 : zd 2 cX10_rootOfSquares 55 57 (.lload 7) := ⟨by decide +kernel, rfl⟩
theorem eX10_rootOfSquares_57 : zd 2 cX10_rootOfSquares 57 59 (.lload 4) := ⟨by decide +kernel, rfl⟩
theorem eX10_rootOfSquares_59 : zd 1 cX10_rootOfSquares 59 60 (.lcmp) := ⟨by decide +kernel, rfl⟩
theorem eX10_rootOfSquares_60 : zdi cX10_rootOfSquares 60 63 66 (.ifCond .lt) := ⟨6, by decide +kernel, rfl, by decide⟩
theorem eX10_rootOfSquares_63 : zdi cX10_rootOfSquares 63 66 76 (.goto) := ⟨13, by decide +kernel, rfl, by decide⟩
theorem eX10_rootOfSquares_66 : zd 2 cX10_rootOfSquares 66 68 (.lload 7) := ⟨by decide +kernel, rfl⟩
theorem eX10_rootOfSquares_68 : zd 2 cX10_rootOfSquares 68 70 (.lstore 4) := ⟨by decide +kernel, rfl⟩
theorem eX10_rootOfSquares_70 : zd 3 cX10_rootOfSquares 70 73 (.iinc 6 1) := ⟨by decide +kernel, rfl⟩
theorem eX10_rootOfSquares_73 : zdi cX10_rootOfSquares 73 76 28 (.goto) := ⟨(-45), by decide +kernel, rfl, by decide⟩
theorem eX10_rootOfSquares_76 : zd 2 cX10_rootOfSquares 76 78 (.lload 4) := ⟨by decide +kernel, rfl⟩
theorem eX10_rootOfSquares_78 : zd 1 cX10_rootOfSquares 78 79 (.l2i) := ⟨by decide +kernel, rfl⟩
theorem eX10_rootOfSquares_79 : zd 1 cX10_rootOfSquares 79 80 (.ireturn) := ⟨by decide +kernel, rfl⟩
theorem MX10_345 : Cond.methodLink RX10 345 Lib.MathLoose.abs_long.x ∈ TB ∧ Cond.static Lib.MathLoose.abs_long.x ∈ TB ∧ Cond.initialized "java/lang/Math" ∈ TB ∧ Cond.code Lib.MathLoose.abs_long.x Lib.MathLoose.abs_long.code 2 (some .long) ∈ TB := ⟨q736, q737, q18, q738⟩
noncomputable def fB_AL_rootOfSquares_28 (z1 : Int64) (ih : (Int64 × Int32) → Option (Int64 × Int32)) (s3 : Int64 × Int32) : Option (Int64 × Int32) := (if 64 ≤ (s3.2) then (some ((s3.1), (s3.2))) else (if (s3.1) ≤ 0 then (some ((s3.1), (s3.2))) else (if (s3.1) = 0 then none else (zlet (((s3.1) + (z1 / (s3.1))) / 2) (fun (z11 : Int64) => (if z11 < (s3.1) then (ih (z11, ((s3.2) + 1))) else (some ((s3.1), (s3.2)))))))))
noncomputable def f_AL_rootOfSquares  (p1 : Int32) (p2 : Int32) : Option (Int32) := (zlet ((p1.toInt64 * p1.toInt64) + (p2.toInt64 * p2.toInt64)) (fun (z1 : Int64) => (zlet ((zabsl p1.toInt64) + (zabsl p2.toInt64)) (fun (z2 : Int64) => (Option.bind (lp (fB_AL_rootOfSquares_28 z1) LF (z2, 0)) (fun (q4 : Int64 × Int32) => (some (q4.1).toInt32)))))))
abbrev rm_AL_rootOfSquares : Room := { frames := 1, cells := 0, slots := 0, locals := 21 }
set_option maxHeartbeats 4000000 in
set_option maxRecDepth 100000 in
theorem c_AL_rootOfSquares (l : Launch) (g : zGl)  (p1 : Int32) (p2 : Int32) (out : Int32) (hf : f_AL_rootOfSquares p1 p2 = some out) : zMi l yX10_rootOfSquares cX10_rootOfSquares 9 rm_AL_rootOfSquares g [.int p1, .int p2] ([]) out ([]) := by
  refine zMi_of (lv := [(0, .int p1), (1, .int p2)]) (by decide) (Nat.le_of_ble_eq_true rfl) rfl (fun x hl hg C hret => ?_)
  subst hl; subst hg
  rw [f_AL_rootOfSquares] at hf
  refine r_iload_n C eX10_rootOfSquares_0 0 rfl rfl ?_
  refine r_i2l C eX10_rootOfSquares_1 ?_
  refine r_iload_n C eX10_rootOfSquares_2 0 rfl rfl ?_
  refine r_i2l C eX10_rootOfSquares_3 ?_
  refine r_lmul C eX10_rootOfSquares_4 ?_
  refine r_iload_n C eX10_rootOfSquares_5 1 rfl rfl ?_
  refine r_i2l C eX10_rootOfSquares_6 ?_
  refine r_iload_n C eX10_rootOfSquares_7 1 rfl rfl ?_
  refine r_i2l C eX10_rootOfSquares_8 ?_
  refine r_lmul C eX10_rootOfSquares_9 ?_
  refine r_ladd C eX10_rootOfSquares_10 ?_
  obtain ⟨z1, hz1, hf⟩ := zlet_of hf
  refine r_naml hz1 ?_
  refine r_lstore_n C [(2, .long z1), (0, .int p1), (1, .int p2)] eX10_rootOfSquares_11 rfl (by decide) rfl ?_
  refine r_iload_n C eX10_rootOfSquares_12 1 rfl rfl ?_
  refine r_i2l C eX10_rootOfSquares_13 ?_
  refine r_mabsl C eX10_rootOfSquares_14 MX10_345 rfl ?_
  refine r_iload_n C eX10_rootOfSquares_17 2 rfl rfl ?_
  refine r_i2l C eX10_rootOfSquares_18 ?_
  refine r_mabsl C eX10_rootOfSquares_19 MX10_345 rfl ?_
  refine r_ladd C eX10_rootOfSquares_22 ?_
  obtain ⟨z2, hz2, hf⟩ := zlet_of hf
  refine r_naml hz2 ?_
  refine r_lstore C [(4, .long z2), (2, .long z1), (0, .int p1), (1, .int p2)] eX10_rootOfSquares_23 (by decide) rfl ?_
  refine r_iconst C (v := 0) eX10_rootOfSquares_25 (by decide) ?_
  refine r_istore C [(6, .int 0), (4, .long z2), (2, .long z1), (0, .int p1), (1, .int p2)] eX10_rootOfSquares_26 (by decide) rfl ?_
  obtain ⟨q4, h5, hf⟩ := zbind hf
  have J6 : vV x 9 0 0 ([]) 76 [(4, .long (q4.1))] [] := by
    refine r_lload C eX10_rootOfSquares_76 0 rfl ?_
    refine r_l2i C eX10_rootOfSquares_78 ?_
    obtain rfl := Option.some.inj (show some ((q4.1).toInt32 : Int32) = some _ from hf)
    exact hret _ _ _ eX10_rootOfSquares_79
  have L7 : ∀ (nL7 : Nat) (s3 : Int64 × Int32), lp (fB_AL_rootOfSquares_28 z1) nL7 s3 = some q4 → vV x 9 0 0 ([]) 28 [(2, .long z1), (4, .long (s3.1)), (6, .int (s3.2))] [] := by
    intro nL7
    induction nL7 with
    | zero => intro s3 hq; cases hq
    | succ nL7 ihL7 =>
      intro s3 hbL7
      rw [lp_succ, fB_AL_rootOfSquares_28] at hbL7
      refine r_iload C eX10_rootOfSquares_28 2 rfl ?_
      refine r_bipush C (v := 64) eX10_rootOfSquares_30 (by decide) ?_
      refine r_icmp_ge C eX10_rootOfSquares_32 (fun c8 => ?_) (fun c8 => ?_)
      · rw [if_pos c8] at hbL7
        obtain rfl := Option.some.inj hbL7
        refine r_sub (lv' := [(4, .long (s3.1))]) [1] rfl ?_
        exact J6
      · rw [if_neg c8] at hbL7
        refine r_lload C eX10_rootOfSquares_35 1 rfl ?_
        refine r_lconst C (v := 0) eX10_rootOfSquares_37 (by decide) ?_
        refine r_lcmp_le C eX10_rootOfSquares_38 eX10_rootOfSquares_39 (fun c9 => ?_) (fun c9 => ?_)
        · rw [if_pos c9] at hbL7
          obtain rfl := Option.some.inj hbL7
          refine r_sub (lv' := [(4, .long (s3.1))]) [1] rfl ?_
          exact J6
        · rw [if_neg c9] at hbL7
          refine r_lload C eX10_rootOfSquares_42 1 rfl ?_
          refine r_lload_n C eX10_rootOfSquares_44 0 rfl rfl ?_
          refine r_lload C eX10_rootOfSquares_45 1 rfl ?_
          obtain ⟨hz10, hbL7⟩ := zdv hbL7
          refine r_ldiv C eX10_rootOfSquares_47 hz10 ?_
          refine r_ladd C eX10_rootOfSquares_48 ?_
          refine r_ldc2 C (v := 2) eX10_rootOfSquares_49 q739 ?_
          refine r_ldiv C eX10_rootOfSquares_52 (by decide) ?_
          obtain ⟨z11, hz11, hbL7⟩ := zlet_of hbL7
          refine r_naml hz11 ?_
          refine r_lstore C [(7, .long z11), (2, .long z1), (4, .long (s3.1)), (6, .int (s3.2))] eX10_rootOfSquares_53 (by decide) rfl ?_
          refine r_lload C eX10_rootOfSquares_55 0 rfl ?_
          refine r_lload C eX10_rootOfSquares_57 2 rfl ?_
          refine r_lcmp_lt C eX10_rootOfSquares_59 eX10_rootOfSquares_60 (fun c12 => ?_) (fun c12 => ?_)
          · rw [if_pos c12] at hbL7
            refine r_lload C eX10_rootOfSquares_66 0 rfl ?_
            refine r_lstore C [(4, .long z11), (7, .long z11), (2, .long z1), (6, .int (s3.2))] eX10_rootOfSquares_68 (by decide) rfl ?_
            refine r_iinc C (v := ((s3.2) + 1)) [(6, .int ((s3.2) + 1)), (4, .long z11), (7, .long z11), (2, .long z1)] eX10_rootOfSquares_70 3 rfl rfl (by decide) rfl ?_
            refine r_goto C eX10_rootOfSquares_73 ?_
            refine r_sub (lv' := [(2, .long z1), (4, .long z11), (6, .int ((s3.2) + 1))]) [3, 1, 0] rfl ?_
            have hc := ihL7 (z11, ((s3.2) + 1)) hbL7
            exact hc
          · rw [if_neg c12] at hbL7
            refine r_goto C eX10_rootOfSquares_63 ?_
            obtain rfl := Option.some.inj hbL7
            refine r_sub (lv' := [(4, .long (s3.1))]) [2] rfl ?_
            exact J6
  refine r_sub (lv' := [(2, .long z1), (4, .long z2), (6, .int 0)]) [2, 1, 0] rfl ?_
  have hc := L7 LF (z2, 0) h5
  exact hc
theorem eX10_held_0 : zd 1 cX10_held 0 1 (.iload_n 1) := ⟨by decide +kernel, rfl⟩
theorem eX10_held_1 : zd 1 cX10_held 1 2 (.iload_n 2) := ⟨by decide +kernel, rfl⟩
theorem eX10_held_2 : zd 1 cX10_held 2 3 (.iload_n 0) := ⟨by decide +kernel, rfl⟩
theorem eX10_held_3 : zd 3 cX10_held 3 6 (.invokestatic 338) := ⟨by decide +kernel, rfl⟩
theorem eX10_held_6 : zd 3 cX10_held 6 9 (.invokestatic 342) := ⟨by decide +kernel, rfl⟩
theorem eX10_held_9 : zd 1 cX10_held 9 10 (.ireturn) := ⟨by decide +kernel, rfl⟩
theorem MX10_338 : Cond.methodLink RX10 338 Lib.Math.min.name ∈ TB ∧ Cond.static Lib.Math.min.name ∈ TB ∧ Cond.initialized "java/lang/Math" ∈ TB ∧ Cond.code Lib.Math.min.name Lib.Math.min.code 2 (some .int) ∈ TB := ⟨q753, q754, q18, q755⟩
theorem MX10_342 : Cond.methodLink RX10 342 Lib.Math.max.name ∈ TB ∧ Cond.static Lib.Math.max.name ∈ TB ∧ Cond.initialized "java/lang/Math" ∈ TB ∧ Cond.code Lib.Math.max.name Lib.Math.max.code 2 (some .int) ∈ TB := ⟨q756, q701, q18, q702⟩
noncomputable def f_AL_held  (p1 : Int32) (p2 : Int32) (p3 : Int32) : Int32 := (zmax p2 (zmin p3 p1))
abbrev rm_AL_held : Room := { frames := 1, cells := 0, slots := 0, locals := 21 }
set_option maxHeartbeats 4000000 in
set_option maxRecDepth 100000 in
theorem c_AL_held (l : Launch) (g : zGl)  (p1 : Int32) (p2 : Int32) (p3 : Int32) (out : Int32) (hf : f_AL_held p1 p2 p3 = out) : zMi l yX10_held cX10_held 3 rm_AL_held g [.int p1, .int p2, .int p3] ([]) out ([]) := by
  refine zMi_of (lv := [(0, .int p1), (1, .int p2), (2, .int p3)]) (by decide) (Nat.le_of_ble_eq_true rfl) rfl (fun x hl hg C hret => ?_)
  subst hl; subst hg
  rw [f_AL_held] at hf
  refine r_iload_n C eX10_held_0 1 rfl rfl ?_
  refine r_iload_n C eX10_held_1 2 rfl rfl ?_
  refine r_iload_n C eX10_held_2 0 rfl rfl ?_
  refine r_mmin C eX10_held_3 MX10_338 rfl ?_
  refine r_mmax C eX10_held_6 MX10_342 rfl ?_
  subst hf
  exact hret _ _ _ eX10_held_9
