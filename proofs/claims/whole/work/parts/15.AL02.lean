theorem eX10_isTriedReading_0 : zd 1 cX10_isTriedReading 0 1 (.iload_n 0) := ⟨by decide +kernel, rfl⟩
theorem eX10_isTriedReading_1 : zdi cX10_isTriedReading 1 4 9 (.ifCond .lt) := ⟨8, by decide +kernel, rfl, by decide⟩
theorem eX10_isTriedReading_4 : zd 1 cX10_isTriedReading 4 5 (.iload_n 0) := ⟨by decide +kernel, rfl⟩
theorem eX10_isTriedReading_5 : zd 1 cX10_isTriedReading 5 6 (.iconst 5) := ⟨by decide +kernel, rfl⟩
theorem eX10_isTriedReading_6 : zdi cX10_isTriedReading 6 9 33 (.if_icmp .le) := ⟨27, by decide +kernel, rfl, by decide⟩
theorem eX10_isTriedReading_9 : zd 1 cX10_isTriedReading 9 10 (.iload_n 0) := ⟨by decide +kernel, rfl⟩
theorem eX10_isTriedReading_10 : zd 2 cX10_isTriedReading 10 12 (.bipush 9) := ⟨by decide +kernel, rfl⟩
theorem eX10_isTriedReading_12 : zdi cX10_isTriedReading 12 15 21 (.if_icmp .lt) := ⟨9, by decide +kernel, rfl, by decide⟩
theorem eX10_isTriedReading_15 : zd 1 cX10_isTriedReading 15 16 (.iload_n 0) := ⟨by decide +kernel, rfl⟩
theorem eX10_isTriedReading_16 : zd 2 cX10_isTriedReading 16 18 (.bipush 11) := ⟨by decide +kernel, rfl⟩
theorem eX10_isTriedReading_18 : zdi cX10_isTriedReading 18 21 33 (.if_icmp .le) := ⟨15, by decide +kernel, rfl, by decide⟩
theorem eX10_isTriedReading_21 : zd 1 cX10_isTriedReading 21 22 (.iload_n 0) := ⟨by decide +kernel, rfl⟩
theorem eX10_isTriedReading_22 : zd 2 cX10_isTriedReading 22 24 (.bipush 15) := ⟨by decide +kernel, rfl⟩
theorem eX10_isTriedReading_24 : zdi cX10_isTriedReading 24 27 33 (.if_icmp .eq) := ⟨9, by decide +kernel, rfl, by decide⟩
theorem eX10_isTriedReading_27 : zd 1 cX10_isTriedReading 27 28 (.iload_n 0) := ⟨by decide +kernel, rfl⟩
theorem eX10_isTriedReading_28 : zd 2 cX10_isTriedReading 28 30 (.bipush 17) := ⟨by decide +kernel, rfl⟩
theorem eX10_isTriedReading_30 : zdi cX10_isTriedReading 30 33 37 (.if_icmp .ne) := ⟨7, by decide +kernel, rfl, by decide⟩
theorem eX10_isTriedReading_33 : zd 1 cX10_isTriedReading 33 34 (.iconst 1) := ⟨by decide +kernel, rfl⟩
theorem eX10_isTriedReading_34 : zdi cX10_isTriedReading 34 37 38 (.goto) := ⟨4, by decide +kernel, rfl, by decide⟩
theorem eX10_isTriedReading_37 : zd 1 cX10_isTriedReading 37 38 (.iconst 0) := ⟨by decide +kernel, rfl⟩
theorem eX10_isTriedReading_38 : zd 1 cX10_isTriedReading 38 39 (.ireturn) := ⟨by decide +kernel, rfl⟩
noncomputable def f_AL_isTriedReading  (p1 : Int32) : Int32 := (if p1 < 0 then (if p1 < 9 then (if p1 = 15 then 1 else (if p1 = 17 then 1 else 0)) else (if p1 ≤ 11 then 1 else (if p1 = 15 then 1 else (if p1 = 17 then 1 else 0)))) else (if p1 ≤ 5 then 1 else (if p1 < 9 then (if p1 = 15 then 1 else (if p1 = 17 then 1 else 0)) else (if p1 ≤ 11 then 1 else (if p1 = 15 then 1 else (if p1 = 17 then 1 else 0))))))
abbrev rm_AL_isTriedReading : Room := { frames := 0, cells := 0, slots := 0, locals := 0 }
set_option maxHeartbeats 4000000 in
set_option maxRecDepth 100000 in
theorem c_AL_isTriedReading (l : Launch) (g : zGl)  (p1 : Int32) (out : Int32) (hf : f_AL_isTriedReading p1 = out) : zMz l yX10_isTriedReading cX10_isTriedReading 1 rm_AL_isTriedReading g [.int p1] ([]) out ([]) := by
  refine zMz_of (lv := [(0, .int p1)]) (by decide) (Nat.le_of_ble_eq_true rfl) rfl (fun x hl hg C hret => ?_)
  subst hl; subst hg
  rw [f_AL_isTriedReading] at hf
  refine r_iload_n C eX10_isTriedReading_0 0 rfl rfl ?_
  refine r_if_lt C eX10_isTriedReading_1 (fun c1 => ?_) (fun c1 => ?_)
  · rw [if_pos c1] at hf
    refine r_iload_n C eX10_isTriedReading_9 0 rfl rfl ?_
    refine r_bipush C (v := 9) eX10_isTriedReading_10 (by decide) ?_
    refine r_icmp_lt C eX10_isTriedReading_12 (fun c2 => ?_) (fun c2 => ?_)
    · rw [if_pos c2] at hf
      refine r_iload_n C eX10_isTriedReading_21 0 rfl rfl ?_
      refine r_bipush C (v := 15) eX10_isTriedReading_22 (by decide) ?_
      refine r_icmp_eq C eX10_isTriedReading_24 (fun c3 => ?_) (fun c3 => ?_)
      · rw [if_pos c3] at hf
        refine r_iconst C (v := 1) eX10_isTriedReading_33 (by decide) ?_
        refine r_goto C eX10_isTriedReading_34 ?_
        subst hf
        exact hret _ _ _ eX10_isTriedReading_38 zB1
      · rw [if_neg c3] at hf
        refine r_iload_n C eX10_isTriedReading_27 0 rfl rfl ?_
        refine r_bipush C (v := 17) eX10_isTriedReading_28 (by decide) ?_
        refine r_icmp_ne C eX10_isTriedReading_30 (fun c4 => ?_) (fun c4 => ?_)
        · rw [if_neg c4] at hf
          refine r_iconst C (v := 0) eX10_isTriedReading_37 (by decide) ?_
          subst hf
          exact hret _ _ _ eX10_isTriedReading_38 zB0
        · rw [if_pos c4] at hf
          refine r_iconst C (v := 1) eX10_isTriedReading_33 (by decide) ?_
          refine r_goto C eX10_isTriedReading_34 ?_
          subst hf
          exact hret _ _ _ eX10_isTriedReading_38 zB1
    · rw [if_neg c2] at hf
      refine r_iload_n C eX10_isTriedReading_15 0 rfl rfl ?_
      refine r_bipush C (v := 11) eX10_isTriedReading_16 (by decide) ?_
      refine r_icmp_le C eX10_isTriedReading_18 (fun c5 => ?_) (fun c5 => ?_)
      · rw [if_pos c5] at hf
        refine r_iconst C (v := 1) eX10_isTriedReading_33 (by decide) ?_
        refine r_goto C eX10_isTriedReading_34 ?_
        subst hf
        exact hret _ _ _ eX10_isTriedReading_38 zB1
      · rw [if_neg c5] at hf
        refine r_iload_n C eX10_isTriedReading_21 0 rfl rfl ?_
        refine r_bipush C (v := 15) eX10_isTriedReading_22 (by decide) ?_
        refine r_icmp_eq C eX10_isTriedReading_24 (fun c6 => ?_) (fun c6 => ?_)
        · rw [if_pos c6] at hf
          refine r_iconst C (v := 1) eX10_isTriedReading_33 (by decide) ?_
          refine r_goto C eX10_isTriedReading_34 ?_
          subst hf
          exact hret _ _ _ eX10_isTriedReading_38 zB1
        · rw [if_neg c6] at hf
          refine r_iload_n C eX10_isTriedReading_27 0 rfl rfl ?_
          refine r_bipush C (v := 17) eX10_isTriedReading_28 (by decide) ?_
          refine r_icmp_ne C eX10_isTriedReading_30 (fun c7 => ?_) (fun c7 => ?_)
          · rw [if_neg c7] at hf
            refine r_iconst C (v := 0) eX10_isTriedReading_37 (by decide) ?_
            subst hf
            exact hret _ _ _ eX10_isTriedReading_38 zB0
          · rw [if_pos c7] at hf
            refine r_iconst C (v := 1) eX10_isTriedReading_33 (by decide) ?_
            refine r_goto C eX10_isTriedReading_34 ?_
            subst hf
            exact hret _ _ _ eX10_isTriedReading_38 zB1
  · rw [if_neg c1] at hf
    refine r_iload_n C eX10_isTriedReading_4 0 rfl rfl ?_
    refine r_iconst C (v := 5) eX10_isTriedReading_5 (by decide) ?_
    refine r_icmp_le C eX10_isTriedReading_6 (fun c8 => ?_) (fun c8 => ?_)
    · rw [if_pos c8] at hf
      refine r_iconst C (v := 1) eX10_isTriedReading_33 (by decide) ?_
      refine r_goto C eX10_isTriedReading_34 ?_
      subst hf
      exact hret _ _ _ eX10_isTriedReading_38 zB1
    · rw [if_neg c8] at hf
      refine r_iload_n C eX10_isTriedReading_9 0 rfl rfl ?_
      refine r_bipush C (v := 9) eX10_isTriedReading_10 (by decide) ?_
      refine r_icmp_lt C eX10_isTriedReading_12 (fun c9 => ?_) (fun c9 => ?_)
      · rw [if_pos c9] at hf
        refine r_iload_n C eX10_isTriedReading_21 0 rfl rfl ?_
        refine r_bipush C (v := 15) eX10_isTriedReading_22 (by decide) ?_
        refine r_icmp_eq C eX10_isTriedReading_24 (fun c10 => ?_) (fun c10 => ?_)
        · rw [if_pos c10] at hf
          refine r_iconst C (v := 1) eX10_isTriedReading_33 (by decide) ?_
          refine r_goto C eX10_isTriedReading_34 ?_
          subst hf
          exact hret _ _ _ eX10_isTriedReading_38 zB1
        · rw [if_neg c10] at hf
          refine r_iload_n C eX10_isTriedReading_27 0 rfl rfl ?_
          refine r_bipush C (v := 17) eX10_isTriedReading_28 (by decide) ?_
          refine r_icmp_ne C eX10_isTriedReading_30 (fun c11 => ?_) (fun c11 => ?_)
          · rw [if_neg c11] at hf
            refine r_iconst C (v := 0) eX10_isTriedReading_37 (by decide) ?_
            subst hf
            exact hret _ _ _ eX10_isTriedReading_38 zB0
          · rw [if_pos c11] at hf
            refine r_iconst C (v := 1) eX10_isTriedReading_33 (by decide) ?_
            refine r_goto C eX10_isTriedReading_34 ?_
            subst hf
            exact hret _ _ _ eX10_isTriedReading_38 zB1
      · rw [if_neg c9] at hf
        refine r_iload_n C eX10_isTriedReading_15 0 rfl rfl ?_
        refine r_bipush C (v := 11) eX10_isTriedReading_16 (by decide) ?_
        refine r_icmp_le C eX10_isTriedReading_18 (fun c12 => ?_) (fun c12 => ?_)
        · rw [if_pos c12] at hf
          refine r_iconst C (v := 1) eX10_isTriedReading_33 (by decide) ?_
          refine r_goto C eX10_isTriedReading_34 ?_
          subst hf
          exact hret _ _ _ eX10_isTriedReading_38 zB1
        · rw [if_neg c12] at hf
          refine r_iload_n C eX10_isTriedReading_21 0 rfl rfl ?_
          refine r_bipush C (v := 15) eX10_isTriedReading_22 (by decide) ?_
          refine r_icmp_eq C eX10_isTriedReading_24 (fun c13 => ?_) (fun c13 => ?_)
          · rw [if_pos c13] at hf
            refine r_iconst C (v := 1) eX10_isTriedReading_33 (by decide) ?_
            refine r_goto C eX10_isTriedReading_34 ?_
            subst hf
            exact hret _ _ _ eX10_isTriedReading_38 zB1
          · rw [if_neg c13] at hf
            refine r_iload_n C eX10_isTriedReading_27 0 rfl rfl ?_
            refine r_bipush C (v := 17) eX10_isTriedReading_28 (by decide) ?_
            refine r_icmp_ne C eX10_isTriedReading_30 (fun c14 => ?_) (fun c14 => ?_)
            · rw [if_neg c14] at hf
              refine r_iconst C (v := 0) eX10_isTriedReading_37 (by decide) ?_
              subst hf
              exact hret _ _ _ eX10_isTriedReading_38 zB0
            · rw [if_pos c14] at hf
              refine r_iconst C (v := 1) eX10_isTriedReading_33 (by decide) ?_
              refine r_goto C eX10_isTriedReading_34 ?_
              subst hf
              exact hret _ _ _ eX10_isTriedReading_38 zB1
theorem eX10_judge_0 : zd 1 cX10_judge 0 1 (.iload_n 1) := ⟨by decide +kernel, rfl⟩
theorem eX10_judge_1 : zdi cX10_judge 1 4 11 (.ifCond .lt) := ⟨10, by decide +kernel, rfl, by decide⟩
theorem eX10_judge_4 : zd 1 cX10_judge 4 5 (.iload_n 1) := ⟨by decide +kernel, rfl⟩
theorem eX10_judge_5 : zd 3 cX10_judge 5 8 (.sipush 9999) := ⟨by decide +kernel, rfl⟩
theorem eX10_judge_8 : zdi cX10_judge 8 11 14 (.if_icmp .le) := ⟨6, by decide +kernel, rfl, by decide⟩
theorem eX10_judge_11 : zd 2 cX10_judge 11 13 (.ldc 97) := ⟨by decide +kernel, rfl⟩
theorem eX10_judge_13 : zd 1 cX10_judge 13 14 (.ireturn) := ⟨by decide +kernel, rfl⟩
theorem eX10_judge_14 : zd 1 cX10_judge 14 15 (.aload_n 0) := ⟨by decide +kernel, rfl⟩
theorem eX10_judge_15 : zd 3 cX10_judge 15 18 (.getfield 63) := ⟨by decide +kernel, rfl⟩
theorem eX10_judge_18 : zd 1 cX10_judge 18 19 (.aload_n 0) := ⟨by decide +kernel, rfl⟩
theorem eX10_judge_19 : zd 3 cX10_judge 19 22 (.getfield 47) := ⟨by decide +kernel, rfl⟩
theorem eX10_judge_22 : zd 3 cX10_judge 22 25 (.invokevirtual 235) := ⟨by decide +kernel, rfl⟩
theorem eX10_judge_25 : zd 1 cX10_judge 25 26 (.iconst 0) := ⟨by decide +kernel, rfl⟩
theorem eX10_judge_26 : zd 1 cX10_judge 26 27 (.istore_n 2) := ⟨by decide +kernel, rfl⟩
theorem eX10_judge_27 : zd 1 cX10_judge 27 28 (.iconst 0) := ⟨by decide +kernel, rfl⟩
theorem eX10_judge_28 : zd 1 cX10_judge 28 29 (.istore_n 3) := ⟨by decide +kernel, rfl⟩
theorem eX10_judge_29 : zd 1 cX10_judge 29 30 (.iload_n 3) := ⟨by decide +kernel, rfl⟩
theorem eX10_judge_30 : zd 1 cX10_judge 30 31 (.aload_n 0) := ⟨by decide +kernel, rfl⟩
theorem eX10_judge_31 : zd 3 cX10_judge 31 34 (.getfield 301) := ⟨by decide +kernel, rfl⟩
theorem eX10_judge_34 : zdi cX10_judge 34 37 98 (.if_icmp .ge) := ⟨64, by decide +kernel, rfl, by decide⟩
theorem eX10_judge_37 : zd 1 cX10_judge 37 38 (.iload_n 3) := ⟨by decide +kernel, rfl⟩
theorem eX10_judge_38 : zd 2 cX10_judge 38 40 (.bipush 60) := ⟨by decide +kernel, rfl⟩
theorem eX10_judge_40 : zdi cX10_judge 40 43 98 (.if_icmp .ge) := ⟨58, by decide +kernel, rfl, by decide⟩
theorem eX10_judge_43 : zd 1 cX10_judge 43 44 (.aload_n 0) := ⟨by decide +kernel, rfl⟩
theorem eX10_judge_44 : zd 3 cX10_judge 44 47 (.getfield 63) := ⟨by decide +kernel, rfl⟩
theorem eX10_judge_47 : zd 3 cX10_judge 47 50 (.getfield 304) := ⟨by decide +kernel, rfl⟩
theorem eX10_judge_50 : zd 1 cX10_judge 50 51 (.aload_n 0) := ⟨by decide +kernel, rfl⟩
theorem eX10_judge_51 : zd 3 cX10_judge 51 54 (.getfield 59) := ⟨by decide +kernel, rfl⟩
theorem eX10_judge_54 : zd 1 cX10_judge 54 55 (.iload_n 3) := ⟨by decide +kernel, rfl⟩
theorem eX10_judge_55 : zd 1 cX10_judge 55 56 (.iaload) := ⟨by decide +kernel, rfl⟩
theorem eX10_judge_56 : zd 1 cX10_judge 56 57 (.isub) := ⟨by decide +kernel, rfl⟩
theorem eX10_judge_57 : zd 3 cX10_judge 57 60 (.invokestatic 307) := ⟨by decide +kernel, rfl⟩
theorem eX10_judge_60 : zd 1 cX10_judge 60 61 (.iload_n 1) := ⟨by decide +kernel, rfl⟩
theorem eX10_judge_61 : zdi cX10_judge 61 64 66 (.if_icmp .le) := ⟨5, by decide +kernel, rfl, by decide⟩
theorem eX10_judge_64 : zd 1 cX10_judge 64 65 (.iload_n 3) := ⟨by decide +kernel, rfl⟩
theorem eX10_judge_65 : zd 1 cX10_judge 65 66 (.ireturn) := ⟨by decide +kernel, rfl⟩
theorem eX10_judge_66 : zd 1 cX10_judge 66 67 (.aload_n 0) := ⟨by decide +kernel, rfl⟩
theorem eX10_judge_67 : zd 3 cX10_judge 67 70 (.getfield 33) := ⟨by decide +kernel, rfl⟩
theorem eX10_judge_70 : zd 1 cX10_judge 70 71 (.aload_n 0) := ⟨by decide +kernel, rfl⟩
theorem eX10_judge_71 : zd 3 cX10_judge 71 74 (.getfield 63) := ⟨by decide +kernel, rfl⟩
theorem eX10_judge_74 : zd 1 cX10_judge 74 75 (.iload_n 2) := ⟨by decide +kernel, rfl⟩
theorem eX10_judge_75 : zd 1 cX10_judge 75 76 (.iload_n 3) := ⟨by decide +kernel, rfl⟩
theorem eX10_judge_76 : zd 3 cX10_judge 76 79 (.invokevirtual 312) := ⟨by decide +kernel, rfl⟩
theorem eX10_judge_79 : zd 1 cX10_judge 79 80 (.istore_n 2) := ⟨by decide +kernel, rfl⟩
theorem eX10_judge_80 : zd 1 cX10_judge 80 81 (.aload_n 0) := ⟨by decide +kernel, rfl⟩
theorem eX10_judge_81 : zd 3 cX10_judge 81 84 (.getfield 63) := ⟨by decide +kernel, rfl⟩
theorem eX10_judge_84 : zd 1 cX10_judge 84 85 (.aload_n 0) := ⟨by decide +kernel, rfl⟩
theorem eX10_judge_85 : zd 3 cX10_judge 85 88 (.getfield 26) := ⟨by decide +kernel, rfl⟩
theorem eX10_judge_88 : zd 3 cX10_judge 88 91 (.invokevirtual 171) := ⟨by decide +kernel, rfl⟩
theorem eX10_judge_91 : zd 1 cX10_judge 91 92 (.pop) := ⟨by decide +kernel, rfl⟩
theorem eX10_judge_92 : zd 3 cX10_judge 92 95 (.iinc 3 1) := ⟨by decide +kernel, rfl⟩
theorem eX10_judge_95 : zdi cX10_judge 95 98 29 (.goto) := ⟨(-66), by decide +kernel, rfl, by decide⟩
theorem eX10_judge_98 : zd 1 cX10_judge 98 99 (.iconst (-1)) := ⟨by decide +kernel, rfl⟩
theorem eX10_judge_99 : zd 1 cX10_judge 99 100 (.ireturn) := ⟨by decide +kernel, rfl⟩
theorem FX10_59 : zlF RX10 59 10 8 := ⟨(RX10, TX10, 15), rfl, by decide, q382, zin10⟩
theorem FX10_63 : zlF RX10 63 10 9 := ⟨(RX10, TX10, 15), rfl, by decide, q383, zin10⟩
theorem FX10_304 : zlF RX10 304 7 0 := ⟨(RX7, TX7, 18), rfl, by decide, q232, zin7⟩
theorem MX10_307 : Cond.methodLink RX10 307 Lib.Math.abs.name ∈ TB ∧ Cond.static Lib.Math.abs.name ∈ TB ∧ Cond.initialized "java/lang/Math" ∈ TB ∧ Cond.code Lib.Math.abs.name Lib.Math.abs.code 1 (some .int) ∈ TB := ⟨q1042, q708, q18, q709⟩
theorem MX10_312 : zlV RX10 312 yX3_steer cX3_steer 4 ((Option.some FieldType.int)) 3 := ⟨q1043, q783, q784, q5, q785, by decide, by decide, by decide +kernel⟩
noncomputable def fB_AL_judge_29 (v0 : tAL) (p1 : Int32) (r3 : (Nat → Int32) × Int64 × (Nat → Int32) × (Nat → Int32) × (Nat → Int32) × (Nat → Int32)) (ih : (Int32 × Int32 × (Nat → Int32) × Int64 × (Nat → Int32)) → Option ((Int32 × (Nat → Int32) × Int64 × (Nat → Int32) × (Nat → Int32) × (Nat → Int32) × (Nat → Int32)) ⊕ (Int32 × Int32 × (Nat → Int32) × Int64 × (Nat → Int32)))) (s4 : Int32 × Int32 × (Nat → Int32) × Int64 × (Nat → Int32)) : Option ((Int32 × (Nat → Int32) × Int64 × (Nat → Int32) × (Nat → Int32) × (Nat → Int32) × (Nat → Int32)) ⊕ (Int32 × Int32 × (Nat → Int32) × Int64 × (Nat → Int32))) := (if ((gAL_ints v0) 13) ≤ (s4.2.1) then (some (Sum.inr ((s4.1), (s4.2.1), (s4.2.2.1), (s4.2.2.2.1), (s4.2.2.2.2)))) else (if 60 ≤ (s4.2.1) then (some (Sum.inr ((s4.1), (s4.2.1), (s4.2.2.1), (s4.2.2.2.1), (s4.2.2.2.2)))) else (if inb (s4.2.1) 60 = true then (if (zabs (((s4.2.2.1) 0) - ((gAL_logged v0) (ix (s4.2.1))))) ≤ p1 then (Option.bind (f_Pl_steer (gAL_plan v0) (sSh_lines (sSh_harm (sSh_ints (gAL_trial v0) (s4.2.2.1)) (s4.2.2.2.1)) (sLi_length (sLi_post (sLi_place (sLi_fast (gSh_lines (gAL_trial v0)) (s4.2.2.2.2)) (r3.2.2.2.1)) (r3.2.2.2.2.1)) (r3.2.2.2.2.2))) (s4.1) (s4.2.1)) (fun (r13 : Int32 × (Nat → Int32)) => (Option.bind (f_Sh_passSecond (sSh_lines (sSh_harm (sSh_ints (gAL_trial v0) (r13.2)) (s4.2.2.2.1)) (sLi_length (sLi_post (sLi_place (sLi_fast (gSh_lines (gAL_trial v0)) (s4.2.2.2.2)) (r3.2.2.2.1)) (r3.2.2.2.2.1)) (r3.2.2.2.2.2))) (gAL_quay v0)) (fun (r14 : Int32 × (Nat → Int32) × Int64 × (Nat → Int32)) => (ih ((r13.1), ((s4.2.1) + 1), (r14.2.1), (r14.2.2.1), (r14.2.2.2))))))) else (some (Sum.inl ((s4.2.1), (s4.2.2.1), (s4.2.2.2.1), (s4.2.2.2.2), (r3.2.2.2.1), (r3.2.2.2.2.1), (r3.2.2.2.2.2))))) else none)))
noncomputable def f_AL_judge (v0 : tAL) (p1 : Int32) : Option (Int32 × (Nat → Int32) × Int64 × (Nat → Int32) × (Nat → Int32) × (Nat → Int32) × (Nat → Int32)) := (if p1 < 0 then (some ((-1000000002), (gSh_ints (gAL_trial v0)), (gSh_harm (gAL_trial v0)), (gLi_fast (gSh_lines (gAL_trial v0))), (gLi_place (gSh_lines (gAL_trial v0))), (gLi_post (gSh_lines (gAL_trial v0))), (gLi_length (gSh_lines (gAL_trial v0))))) else (if p1 ≤ 9999 then (Option.bind (f_Sh_copyFrom (gAL_trial v0) (gAL_ship v0)) (fun (r3 : (Nat → Int32) × Int64 × (Nat → Int32) × (Nat → Int32) × (Nat → Int32) × (Nat → Int32)) => (Option.bind (lp (fB_AL_judge_29 v0 p1 r3) LF (0, 0, (r3.1), (r3.2.1), (r3.2.2.1))) (fun (q5 : (Int32 × (Nat → Int32) × Int64 × (Nat → Int32) × (Nat → Int32) × (Nat → Int32) × (Nat → Int32)) ⊕ (Int32 × Int32 × (Nat → Int32) × Int64 × (Nat → Int32))) => Sum.elim (fun r => (some r)) (fun (s4e : Int32 × Int32 × (Nat → Int32) × Int64 × (Nat → Int32)) => (some ((-1), (s4e.2.2.1), (s4e.2.2.2.1), (s4e.2.2.2.2), (r3.2.2.2.1), (r3.2.2.2.2.1), (r3.2.2.2.2.2)))) q5)))) else (some ((-1000000002), (gSh_ints (gAL_trial v0)), (gSh_harm (gAL_trial v0)), (gLi_fast (gSh_lines (gAL_trial v0))), (gLi_place (gSh_lines (gAL_trial v0))), (gLi_post (gSh_lines (gAL_trial v0))), (gLi_length (gSh_lines (gAL_trial v0)))))))
abbrev rm_AL_judge : Room := { frames := 4, cells := 0, slots := 0, locals := 102 }
set_option maxHeartbeats 4000000 in
set_option maxRecDepth 100000 in
theorem c_AL_judge (l : Launch) (g : zGl) (a0 : Nat → Nat) (o0 : Nat) (v0 : tAL) (p1 : Int32) (out : Int32 × (Nat → Int32) × Int64 × (Nat → Int32) × (Nat → Int32) × (Nat → Int32) × (Nat → Int32)) (hf : f_AL_judge v0 p1 = some out) : zMi l yX10_judge cX10_judge 4 rm_AL_judge g [.ref (a0 o0), .int p1] (w_AL g a0 o0 v0) (out.1) (w_AL g a0 o0 (sAL_trial v0 (sSh_lines (sSh_harm (sSh_ints (gAL_trial v0) (out.2.1)) (out.2.2.1)) (sLi_length (sLi_post (sLi_place (sLi_fast (gSh_lines (gAL_trial v0)) (out.2.2.2.1)) (out.2.2.2.2.1)) (out.2.2.2.2.2.1)) (out.2.2.2.2.2.2))))) := by
  refine zMi_of (lv := [(0, .ref (a0 o0)), (1, .int p1)]) (by decide) (Nat.le_of_ble_eq_true rfl) rfl (fun x hl hg C hret => ?_)
  subst hl; subst hg
  rw [f_AL_judge] at hf
  refine r_iload_n C eX10_judge_0 1 rfl rfl ?_
  refine r_if_lt C eX10_judge_1 (fun c1 => ?_) (fun c1 => ?_)
  · rw [if_pos c1] at hf
    refine r_ldc C (v := (-1000000002)) eX10_judge_11 q424 ?_
    obtain rfl := Option.some.inj (show some (((-1000000002), (gSh_ints (gAL_trial v0)), (gSh_harm (gAL_trial v0)), (gLi_fast (gSh_lines (gAL_trial v0))), (gLi_place (gSh_lines (gAL_trial v0))), (gLi_post (gSh_lines (gAL_trial v0))), (gLi_length (gSh_lines (gAL_trial v0)))) : Int32 × (Nat → Int32) × Int64 × (Nat → Int32) × (Nat → Int32) × (Nat → Int32) × (Nat → Int32)) = some _ from hf)
    exact hret _ _ _ eX10_judge_13
  · rw [if_neg c1] at hf
    refine r_iload_n C eX10_judge_4 1 rfl rfl ?_
    refine r_sipush C (v := 9999) eX10_judge_5 (by decide) ?_
    refine r_icmp_le C eX10_judge_8 (fun c2 => ?_) (fun c2 => ?_)
    · rw [if_pos c2] at hf
      refine r_aload_n C eX10_judge_14 0 rfl rfl ?_
      refine r_get (v := .ref (a0 (o0 + 45))) C eX10_judge_15 FX10_63 0 rfl rfl ?_
      refine r_aload_n C eX10_judge_18 0 rfl rfl ?_
      refine r_get (v := .ref (a0 (o0 + 27))) C eX10_judge_19 FX10_47 0 rfl rfl ?_
      obtain ⟨r3, hr3, hf⟩ := zbind hf
      refine r_V_v (ws' := w_AL (z_g x) a0 o0 (sAL_trial v0 (sSh_lines (sSh_harm (sSh_ints (gAL_trial v0) (r3.1)) (r3.2.1)) (sLi_length (sLi_post (sLi_place (sLi_fast (gSh_lines (gAL_trial v0)) (r3.2.2.1)) (r3.2.2.2.1)) (r3.2.2.2.2.1)) (r3.2.2.2.2.2))))) C (c_Sh_copyFrom (z_l x) (z_g x) a0 (o0 + 45) (gAL_trial v0) a0 (o0 + 27) (gAL_ship v0)  r3 hr3) eX10_judge_22 MX10_235 ⟨0, 7, _, _, rfl, rfl, rfl⟩ [45, 46, 47, 48, 49, 50, 27, 28, 29, 30, 31, 32] rfl rfl rfl rfl rfl rfl rfl rfl rfl ?_
      refine r_iconst C (v := 0) eX10_judge_25 (by decide) ?_
      refine r_istore_n C [(2, .int 0), (0, .ref (a0 o0)), (1, .int p1)] eX10_judge_26 rfl (by decide) rfl ?_
      refine r_iconst C (v := 0) eX10_judge_27 (by decide) ?_
      refine r_istore_n C [(3, .int 0), (2, .int 0), (0, .ref (a0 o0)), (1, .int p1)] eX10_judge_28 rfl (by decide) rfl ?_
      obtain ⟨q5, h6, hf⟩ := zbind hf
      have J7 : ∀ s4e : Int32 × Int32 × (Nat → Int32) × Int64 × (Nat → Int32), q5 = Sum.inr s4e → vV x 4 0 0 (w_AL (z_g x) a0 o0 (sAL_trial v0 (sSh_lines (sSh_harm (sSh_ints (gAL_trial v0) (s4e.2.2.1)) (s4e.2.2.2.1)) (sLi_length (sLi_post (sLi_place (sLi_fast (gSh_lines (gAL_trial v0)) (s4e.2.2.2.2)) (r3.2.2.2.1)) (r3.2.2.2.2.1)) (r3.2.2.2.2.2))))) 98 [] [] := by
        intro s4e hs
        subst hs
        rw [Sum.elim_inr] at hf
        refine r_iconst C (v := (-1)) eX10_judge_98 (by decide) ?_
        obtain rfl := Option.some.inj (show some (((-1), (s4e.2.2.1), (s4e.2.2.2.1), (s4e.2.2.2.2), (r3.2.2.2.1), (r3.2.2.2.2.1), (r3.2.2.2.2.2)) : Int32 × (Nat → Int32) × Int64 × (Nat → Int32) × (Nat → Int32) × (Nat → Int32) × (Nat → Int32)) = some _ from hf)
        exact hret _ _ _ eX10_judge_99
      have L8 : ∀ (nL8 : Nat) (s4 : Int32 × Int32 × (Nat → Int32) × Int64 × (Nat → Int32)), lp (fB_AL_judge_29 v0 p1 r3) nL8 s4 = some q5 → vV x 4 0 0 (w_AL (z_g x) a0 o0 (sAL_trial v0 (sSh_lines (sSh_harm (sSh_ints (gAL_trial v0) (s4.2.2.1)) (s4.2.2.2.1)) (sLi_length (sLi_post (sLi_place (sLi_fast (gSh_lines (gAL_trial v0)) (s4.2.2.2.2)) (r3.2.2.2.1)) (r3.2.2.2.2.1)) (r3.2.2.2.2.2))))) 29 [(0, .ref (a0 o0)), (1, .int p1), (2, .int (s4.1)), (3, .int (s4.2.1))] [] := by
        intro nL8
        induction nL8 with
        | zero => intro s4 hq; cases hq
        | succ nL8 ihL8 =>
          intro s4 hbL8
          rw [lp_succ, fB_AL_judge_29] at hbL8
          refine r_iload_n C eX10_judge_29 3 rfl rfl ?_
          refine r_aload_n C eX10_judge_30 0 rfl rfl ?_
          refine r_get (v := .int ((gAL_ints v0) 13)) C eX10_judge_31 FX10_301 0 rfl rfl ?_
          refine r_icmp_ge C eX10_judge_34 (fun c9 => ?_) (fun c9 => ?_)
          · rw [if_pos c9] at hbL8
            obtain rfl := Option.some.inj hbL8
            refine r_sub (lv' := []) [] rfl ?_
            exact J7 _ rfl
          · rw [if_neg c9] at hbL8
            refine r_iload_n C eX10_judge_37 3 rfl rfl ?_
            refine r_bipush C (v := 60) eX10_judge_38 (by decide) ?_
            refine r_icmp_ge C eX10_judge_40 (fun c10 => ?_) (fun c10 => ?_)
            · rw [if_pos c10] at hbL8
              obtain rfl := Option.some.inj hbL8
              refine r_sub (lv' := []) [] rfl ?_
              exact J7 _ rfl
            · rw [if_neg c10] at hbL8
              refine r_aload_n C eX10_judge_43 0 rfl rfl ?_
              refine r_get (v := .ref (a0 (o0 + 45))) C eX10_judge_44 FX10_63 0 rfl rfl ?_
              refine r_get (v := .int ((s4.2.2.1) 0)) C eX10_judge_47 FX10_304 45 rfl rfl ?_
              refine r_aload_n C eX10_judge_50 0 rfl rfl ?_
              refine r_get (v := .ref (a0 (o0 + 3))) C eX10_judge_51 FX10_59 0 rfl rfl ?_
              refine r_iload_n C eX10_judge_54 3 rfl rfl ?_
              obtain ⟨hb11, hbL8⟩ := zchk hbL8
              refine r_iald C eX10_judge_55 3 rfl (inb_in hb11) ((gAL_logged v0) (ix (s4.2.1))) rfl ?_
              refine r_isub C eX10_judge_56 ?_
              refine r_mabs C eX10_judge_57 MX10_307 rfl ?_
              refine r_iload_n C eX10_judge_60 1 rfl rfl ?_
              refine r_icmp_le C eX10_judge_61 (fun c12 => ?_) (fun c12 => ?_)
              · rw [if_pos c12] at hbL8
                refine r_aload_n C eX10_judge_66 0 rfl rfl ?_
                refine r_get (v := .ref (a0 (o0 + 21))) C eX10_judge_67 FX10_33 0 rfl rfl ?_
                refine r_aload_n C eX10_judge_70 0 rfl rfl ?_
                refine r_get (v := .ref (a0 (o0 + 45))) C eX10_judge_71 FX10_63 0 rfl rfl ?_
                refine r_iload_n C eX10_judge_74 2 rfl rfl ?_
                refine r_iload_n C eX10_judge_75 3 rfl rfl ?_
                obtain ⟨r13, hr13, hbL8⟩ := zbind hbL8
                refine r_V_i (ws' := w_AL (z_g x) a0 o0 (sAL_trial v0 (sSh_lines (sSh_harm (sSh_ints (gAL_trial v0) (r13.2)) (s4.2.2.2.1)) (sLi_length (sLi_post (sLi_place (sLi_fast (gSh_lines (gAL_trial v0)) (s4.2.2.2.2)) (r3.2.2.2.1)) (r3.2.2.2.2.1)) (r3.2.2.2.2.2))))) C (c_Pl_steer (z_l x) (z_g x) a0 (o0 + 21) (gAL_plan v0) a0 (o0 + 45) (sSh_lines (sSh_harm (sSh_ints (gAL_trial v0) (s4.2.2.1)) (s4.2.2.2.1)) (sLi_length (sLi_post (sLi_place (sLi_fast (gSh_lines (gAL_trial v0)) (s4.2.2.2.2)) (r3.2.2.2.1)) (r3.2.2.2.2.1)) (r3.2.2.2.2.2))) (s4.1) (s4.2.1) r13 hr13) eX10_judge_76 MX10_312 ⟨0, 3, _, _, rfl, rfl, rfl⟩ [21, 22, 23, 24, 45, 46, 47, 48, 49, 50] rfl rfl rfl rfl rfl rfl rfl rfl rfl ?_
                refine r_istore_n C [(2, .int (r13.1)), (0, .ref (a0 o0)), (1, .int p1), (3, .int (s4.2.1))] eX10_judge_79 rfl (by decide) rfl ?_
                refine r_aload_n C eX10_judge_80 1 rfl rfl ?_
                refine r_get (v := .ref (a0 (o0 + 45))) C eX10_judge_81 FX10_63 0 rfl rfl ?_
                refine r_aload_n C eX10_judge_84 1 rfl rfl ?_
                refine r_get (v := .ref (a0 (o0 + 18))) C eX10_judge_85 FX10_26 0 rfl rfl ?_
                obtain ⟨r14, hr14, hbL8⟩ := zbind hbL8
                refine r_V_i (ws' := w_AL (z_g x) a0 o0 (sAL_trial v0 (sSh_lines (sSh_harm (sSh_ints (gAL_trial v0) (r14.2.1)) (r14.2.2.1)) (sLi_length (sLi_post (sLi_place (sLi_fast (gSh_lines (gAL_trial v0)) (r14.2.2.2)) (r3.2.2.2.1)) (r3.2.2.2.2.1)) (r3.2.2.2.2.2))))) C (c_Sh_passSecond (z_l x) (z_g x) a0 (o0 + 45) (sSh_lines (sSh_harm (sSh_ints (gAL_trial v0) (r13.2)) (s4.2.2.2.1)) (sLi_length (sLi_post (sLi_place (sLi_fast (gSh_lines (gAL_trial v0)) (s4.2.2.2.2)) (r3.2.2.2.1)) (r3.2.2.2.2.1)) (r3.2.2.2.2.2))) a0 (o0 + 18) (gAL_quay v0)  r14 hr14) eX10_judge_88 MX10_171 ⟨0, 7, _, _, rfl, rfl, rfl⟩ [45, 46, 47, 48, 49, 50, 18, 19, 20] rfl rfl rfl rfl rfl rfl rfl rfl rfl ?_
                refine r_pop C eX10_judge_91 rfl ?_
                refine r_iinc C (v := ((s4.2.1) + 1)) [(3, .int ((s4.2.1) + 1)), (2, .int (r13.1)), (0, .ref (a0 o0)), (1, .int p1)] eX10_judge_92 3 rfl rfl (by decide) rfl ?_
                refine r_goto C eX10_judge_95 ?_
                refine r_sub (lv' := [(0, .ref (a0 o0)), (1, .int p1), (2, .int (r13.1)), (3, .int ((s4.2.1) + 1))]) [2, 3, 1, 0] rfl ?_
                exact ihL8 ((r13.1), ((s4.2.1) + 1), (r14.2.1), (r14.2.2.1), (r14.2.2.2)) hbL8
              · rw [if_neg c12] at hbL8
                refine r_iload_n C eX10_judge_64 3 rfl rfl ?_
                obtain rfl := Option.some.inj (show some (Sum.inl (((s4.2.1), (s4.2.2.1), (s4.2.2.2.1), (s4.2.2.2.2), (r3.2.2.2.1), (r3.2.2.2.2.1), (r3.2.2.2.2.2)) : Int32 × (Nat → Int32) × Int64 × (Nat → Int32) × (Nat → Int32) × (Nat → Int32) × (Nat → Int32))) = some _ from hbL8)
                obtain rfl := Option.some.inj (show some (((s4.2.1), (s4.2.2.1), (s4.2.2.2.1), (s4.2.2.2.2), (r3.2.2.2.1), (r3.2.2.2.2.1), (r3.2.2.2.2.2)) : Int32 × (Nat → Int32) × Int64 × (Nat → Int32) × (Nat → Int32) × (Nat → Int32) × (Nat → Int32)) = some _ from hf)
                exact hret _ _ _ eX10_judge_65
      refine r_sub (lv' := [(0, .ref (a0 o0)), (1, .int p1), (2, .int 0), (3, .int 0)]) [2, 3, 1, 0] rfl ?_
      exact L8 LF (0, 0, (r3.1), (r3.2.1), (r3.2.2.1)) h6
    · rw [if_neg c2] at hf
      refine r_ldc C (v := (-1000000002)) eX10_judge_11 q424 ?_
      obtain rfl := Option.some.inj (show some (((-1000000002), (gSh_ints (gAL_trial v0)), (gSh_harm (gAL_trial v0)), (gLi_fast (gSh_lines (gAL_trial v0))), (gLi_place (gSh_lines (gAL_trial v0))), (gLi_post (gSh_lines (gAL_trial v0))), (gLi_length (gSh_lines (gAL_trial v0)))) : Int32 × (Nat → Int32) × Int64 × (Nat → Int32) × (Nat → Int32) × (Nat → Int32) × (Nat → Int32)) = some _ from hf)
      exact hret _ _ _ eX10_judge_13
theorem eX10_keep_0 : zd 1 cX10_keep 0 1 (.iload_n 1) := ⟨by decide +kernel, rfl⟩
theorem eX10_keep_1 : zdi cX10_keep 1 4 9 (.ifCond .lt) := ⟨8, by decide +kernel, rfl, by decide⟩
theorem eX10_keep_4 : zd 1 cX10_keep 4 5 (.iload_n 1) := ⟨by decide +kernel, rfl⟩
theorem eX10_keep_5 : zd 1 cX10_keep 5 6 (.iconst 2) := ⟨by decide +kernel, rfl⟩
theorem eX10_keep_6 : zdi cX10_keep 6 9 12 (.if_icmp .lt) := ⟨6, by decide +kernel, rfl, by decide⟩
theorem eX10_keep_9 : zd 2 cX10_keep 9 11 (.ldc 147) := ⟨by decide +kernel, rfl⟩
theorem eX10_keep_11 : zd 1 cX10_keep 11 12 (.ireturn) := ⟨by decide +kernel, rfl⟩
theorem eX10_keep_12 : zd 1 cX10_keep 12 13 (.aload_n 0) := ⟨by decide +kernel, rfl⟩
theorem eX10_keep_13 : zd 3 cX10_keep 13 16 (.getfield 51) := ⟨by decide +kernel, rfl⟩
theorem eX10_keep_16 : zd 1 cX10_keep 16 17 (.iload_n 1) := ⟨by decide +kernel, rfl⟩
theorem eX10_keep_17 : zd 1 cX10_keep 17 18 (.aaload) := ⟨by decide +kernel, rfl⟩
theorem eX10_keep_18 : zd 1 cX10_keep 18 19 (.aload_n 0) := ⟨by decide +kernel, rfl⟩
theorem eX10_keep_19 : zd 3 cX10_keep 19 22 (.getfield 47) := ⟨by decide +kernel, rfl⟩
theorem eX10_keep_22 : zd 3 cX10_keep 22 25 (.invokevirtual 235) := ⟨by decide +kernel, rfl⟩
theorem eX10_keep_25 : zd 1 cX10_keep 25 26 (.aload_n 0) := ⟨by decide +kernel, rfl⟩
theorem eX10_keep_26 : zd 3 cX10_keep 26 29 (.getfield 55) := ⟨by decide +kernel, rfl⟩
theorem eX10_keep_29 : zd 1 cX10_keep 29 30 (.iload_n 1) := ⟨by decide +kernel, rfl⟩
theorem eX10_keep_30 : zd 1 cX10_keep 30 31 (.iconst 1) := ⟨by decide +kernel, rfl⟩
theorem eX10_keep_31 : zd 1 cX10_keep 31 32 (.bastore) := ⟨by decide +kernel, rfl⟩
theorem eX10_keep_32 : zd 1 cX10_keep 32 33 (.iconst 1) := ⟨by decide +kernel, rfl⟩
theorem eX10_keep_33 : zd 1 cX10_keep 33 34 (.ireturn) := ⟨by decide +kernel, rfl⟩
noncomputable def f_AL_keep (v0 : tAL) (p1 : Int32) : Option (Int32 × (Nat → Int32) × Int64 × (Nat → Int32) × (Nat → Int32) × (Nat → Int32) × (Nat → Int32) × (Nat → Int32) × Int64 × (Nat → Int32) × (Nat → Int32) × (Nat → Int32) × (Nat → Int32) × (Nat → Int32)) := (if p1 < 0 then (some ((-1000000001), (gSh_ints (gAL_images0 v0)), (gSh_harm (gAL_images0 v0)), (gLi_fast (gSh_lines (gAL_images0 v0))), (gLi_place (gSh_lines (gAL_images0 v0))), (gLi_post (gSh_lines (gAL_images0 v0))), (gLi_length (gSh_lines (gAL_images0 v0))), (gSh_ints (gAL_images1 v0)), (gSh_harm (gAL_images1 v0)), (gLi_fast (gSh_lines (gAL_images1 v0))), (gLi_place (gSh_lines (gAL_images1 v0))), (gLi_post (gSh_lines (gAL_images1 v0))), (gLi_length (gSh_lines (gAL_images1 v0))), (gAL_kept v0))) else (if p1 < 2 then (if p1 = 0 then (Option.bind (f_Sh_copyFrom (gAL_images0 v0) (gAL_ship v0)) (fun (r4 : (Nat → Int32) × Int64 × (Nat → Int32) × (Nat → Int32) × (Nat → Int32) × (Nat → Int32)) => (if inb p1 2 = true then (some (1, (r4.1), (r4.2.1), (r4.2.2.1), (r4.2.2.2.1), (r4.2.2.2.2.1), (r4.2.2.2.2.2), (gSh_ints (gAL_images1 v0)), (gSh_harm (gAL_images1 v0)), (gLi_fast (gSh_lines (gAL_images1 v0))), (gLi_place (gSh_lines (gAL_images1 v0))), (gLi_post (gSh_lines (gAL_images1 v0))), (gLi_length (gSh_lines (gAL_images1 v0))), (upd (gAL_kept v0) (ix p1) (vp_nar .boolean 1)))) else none))) else (if p1 = 1 then (Option.bind (f_Sh_copyFrom (gAL_images1 v0) (gAL_ship v0)) (fun (r7 : (Nat → Int32) × Int64 × (Nat → Int32) × (Nat → Int32) × (Nat → Int32) × (Nat → Int32)) => (if inb p1 2 = true then (some (1, (gSh_ints (gAL_images0 v0)), (gSh_harm (gAL_images0 v0)), (gLi_fast (gSh_lines (gAL_images0 v0))), (gLi_place (gSh_lines (gAL_images0 v0))), (gLi_post (gSh_lines (gAL_images0 v0))), (gLi_length (gSh_lines (gAL_images0 v0))), (r7.1), (r7.2.1), (r7.2.2.1), (r7.2.2.2.1), (r7.2.2.2.2.1), (r7.2.2.2.2.2), (upd (gAL_kept v0) (ix p1) (vp_nar .boolean 1)))) else none))) else none)) else (some ((-1000000001), (gSh_ints (gAL_images0 v0)), (gSh_harm (gAL_images0 v0)), (gLi_fast (gSh_lines (gAL_images0 v0))), (gLi_place (gSh_lines (gAL_images0 v0))), (gLi_post (gSh_lines (gAL_images0 v0))), (gLi_length (gSh_lines (gAL_images0 v0))), (gSh_ints (gAL_images1 v0)), (gSh_harm (gAL_images1 v0)), (gLi_fast (gSh_lines (gAL_images1 v0))), (gLi_place (gSh_lines (gAL_images1 v0))), (gLi_post (gSh_lines (gAL_images1 v0))), (gLi_length (gSh_lines (gAL_images1 v0))), (gAL_kept v0)))))
abbrev rm_AL_keep : Room := { frames := 3, cells := 0, slots := 0, locals := 65 }
set_option maxHeartbeats 4000000 in
set_option maxRecDepth 100000 in
theorem c_AL_keep (l : Launch) (g : zGl) (a0 : Nat → Nat) (o0 : Nat) (v0 : tAL) (p1 : Int32) (out : Int32 × (Nat → Int32) × Int64 × (Nat → Int32) × (Nat → Int32) × (Nat → Int32) × (Nat → Int32) × (Nat → Int32) × Int64 × (Nat → Int32) × (Nat → Int32) × (Nat → Int32) × (Nat → Int32) × (Nat → Int32)) (hf : f_AL_keep v0 p1 = some out) : zMi l yX10_keep cX10_keep 2 rm_AL_keep g [.ref (a0 o0), .int p1] (w_AL g a0 o0 v0) (out.1) (w_AL g a0 o0 (sAL_kept (sAL_images1 (sAL_images0 v0 (sSh_lines (sSh_harm (sSh_ints (gAL_images0 v0) (out.2.1)) (out.2.2.1)) (sLi_length (sLi_post (sLi_place (sLi_fast (gSh_lines (gAL_images0 v0)) (out.2.2.2.1)) (out.2.2.2.2.1)) (out.2.2.2.2.2.1)) (out.2.2.2.2.2.2.1)))) (sSh_lines (sSh_harm (sSh_ints (gAL_images1 v0) (out.2.2.2.2.2.2.2.1)) (out.2.2.2.2.2.2.2.2.1)) (sLi_length (sLi_post (sLi_place (sLi_fast (gSh_lines (gAL_images1 v0)) (out.2.2.2.2.2.2.2.2.2.1)) (out.2.2.2.2.2.2.2.2.2.2.1)) (out.2.2.2.2.2.2.2.2.2.2.2.1)) (out.2.2.2.2.2.2.2.2.2.2.2.2.1)))) (out.2.2.2.2.2.2.2.2.2.2.2.2.2))) := by
  refine zMi_of (lv := [(0, .ref (a0 o0)), (1, .int p1)]) (by decide) (Nat.le_of_ble_eq_true rfl) rfl (fun x hl hg C hret => ?_)
  subst hl; subst hg
  rw [f_AL_keep] at hf
  refine r_iload_n C eX10_keep_0 1 rfl rfl ?_
  refine r_if_lt C eX10_keep_1 (fun c1 => ?_) (fun c1 => ?_)
  · rw [if_pos c1] at hf
    refine r_ldc C (v := (-1000000001)) eX10_keep_9 q649 ?_
    obtain rfl := Option.some.inj (show some (((-1000000001), (gSh_ints (gAL_images0 v0)), (gSh_harm (gAL_images0 v0)), (gLi_fast (gSh_lines (gAL_images0 v0))), (gLi_place (gSh_lines (gAL_images0 v0))), (gLi_post (gSh_lines (gAL_images0 v0))), (gLi_length (gSh_lines (gAL_images0 v0))), (gSh_ints (gAL_images1 v0)), (gSh_harm (gAL_images1 v0)), (gLi_fast (gSh_lines (gAL_images1 v0))), (gLi_place (gSh_lines (gAL_images1 v0))), (gLi_post (gSh_lines (gAL_images1 v0))), (gLi_length (gSh_lines (gAL_images1 v0))), (gAL_kept v0)) : Int32 × (Nat → Int32) × Int64 × (Nat → Int32) × (Nat → Int32) × (Nat → Int32) × (Nat → Int32) × (Nat → Int32) × Int64 × (Nat → Int32) × (Nat → Int32) × (Nat → Int32) × (Nat → Int32) × (Nat → Int32)) = some _ from hf)
    exact hret _ _ _ eX10_keep_11
  · rw [if_neg c1] at hf
    refine r_iload_n C eX10_keep_4 1 rfl rfl ?_
    refine r_iconst C (v := 2) eX10_keep_5 (by decide) ?_
    refine r_icmp_lt C eX10_keep_6 (fun c2 => ?_) (fun c2 => ?_)
    · rw [if_pos c2] at hf
      refine r_aload_n C eX10_keep_12 0 rfl rfl ?_
      refine r_get (v := .ref (a0 (o0 + 1))) C eX10_keep_13 FX10_51 0 rfl rfl ?_
      refine r_iload_n C eX10_keep_16 1 rfl rfl ?_
      by_cases c3 : p1 = 0
      · rw [if_pos c3] at hf
        refine r_aald C (v := 0) eX10_keep_17 1 c3 0 (by decide) rfl (a0 (o0 + 33)) ⟨rfl, by decide⟩ ?_
        refine r_aload_n C eX10_keep_18 0 rfl rfl ?_
        refine r_get (v := .ref (a0 (o0 + 27))) C eX10_keep_19 FX10_47 0 rfl rfl ?_
        obtain ⟨r4, hr4, hf⟩ := zbind hf
        refine r_V_v (ws' := w_AL (z_g x) a0 o0 (sAL_images0 v0 (sSh_lines (sSh_harm (sSh_ints (gAL_images0 v0) (r4.1)) (r4.2.1)) (sLi_length (sLi_post (sLi_place (sLi_fast (gSh_lines (gAL_images0 v0)) (r4.2.2.1)) (r4.2.2.2.1)) (r4.2.2.2.2.1)) (r4.2.2.2.2.2))))) C (c_Sh_copyFrom (z_l x) (z_g x) a0 (o0 + 33) (gAL_images0 v0) a0 (o0 + 27) (gAL_ship v0)  r4 hr4) eX10_keep_22 MX10_235 ⟨0, 7, _, _, rfl, rfl, rfl⟩ [33, 34, 35, 36, 37, 38, 27, 28, 29, 30, 31, 32] rfl rfl rfl rfl rfl rfl rfl rfl rfl ?_
        refine r_aload_n C eX10_keep_25 0 rfl rfl ?_
        refine r_get (v := .ref (a0 (o0 + 2))) C eX10_keep_26 FX10_55 0 rfl rfl ?_
        refine r_iload_n C eX10_keep_29 1 rfl rfl ?_
        refine r_iconst C (v := 1) eX10_keep_30 (by decide) ?_
        obtain ⟨hb5, hf⟩ := zchk hf
        refine r_zast (ws' := w_AL (z_g x) a0 o0 (sAL_kept (sAL_images0 v0 (sSh_lines (sSh_harm (sSh_ints (gAL_images0 v0) (r4.1)) (r4.2.1)) (sLi_length (sLi_post (sLi_place (sLi_fast (gSh_lines (gAL_images0 v0)) (r4.2.2.1)) (r4.2.2.2.1)) (r4.2.2.2.2.1)) (r4.2.2.2.2.2)))) (upd (gAL_kept v0) (ix p1) (vp_nar .boolean 1)))) C eX10_keep_31 2 rfl (inb_in hb5) rfl ?_
        refine r_iconst C (v := 1) eX10_keep_32 (by decide) ?_
        obtain rfl := Option.some.inj (show some ((1, (r4.1), (r4.2.1), (r4.2.2.1), (r4.2.2.2.1), (r4.2.2.2.2.1), (r4.2.2.2.2.2), (gSh_ints (gAL_images1 v0)), (gSh_harm (gAL_images1 v0)), (gLi_fast (gSh_lines (gAL_images1 v0))), (gLi_place (gSh_lines (gAL_images1 v0))), (gLi_post (gSh_lines (gAL_images1 v0))), (gLi_length (gSh_lines (gAL_images1 v0))), (upd (gAL_kept v0) (ix p1) (vp_nar .boolean 1))) : Int32 × (Nat → Int32) × Int64 × (Nat → Int32) × (Nat → Int32) × (Nat → Int32) × (Nat → Int32) × (Nat → Int32) × Int64 × (Nat → Int32) × (Nat → Int32) × (Nat → Int32) × (Nat → Int32) × (Nat → Int32)) = some _ from hf)
        exact hret _ _ _ eX10_keep_33
      rw [if_neg c3] at hf
      by_cases c6 : p1 = 1
      · rw [if_pos c6] at hf
        refine r_aald C (v := 1) eX10_keep_17 1 c6 1 (by decide) rfl (a0 (o0 + 39)) ⟨rfl, by decide⟩ ?_
        refine r_aload_n C eX10_keep_18 0 rfl rfl ?_
        refine r_get (v := .ref (a0 (o0 + 27))) C eX10_keep_19 FX10_47 0 rfl rfl ?_
        obtain ⟨r7, hr7, hf⟩ := zbind hf
        refine r_V_v (ws' := w_AL (z_g x) a0 o0 (sAL_images1 v0 (sSh_lines (sSh_harm (sSh_ints (gAL_images1 v0) (r7.1)) (r7.2.1)) (sLi_length (sLi_post (sLi_place (sLi_fast (gSh_lines (gAL_images1 v0)) (r7.2.2.1)) (r7.2.2.2.1)) (r7.2.2.2.2.1)) (r7.2.2.2.2.2))))) C (c_Sh_copyFrom (z_l x) (z_g x) a0 (o0 + 39) (gAL_images1 v0) a0 (o0 + 27) (gAL_ship v0)  r7 hr7) eX10_keep_22 MX10_235 ⟨0, 7, _, _, rfl, rfl, rfl⟩ [39, 40, 41, 42, 43, 44, 27, 28, 29, 30, 31, 32] rfl rfl rfl rfl rfl rfl rfl rfl rfl ?_
        refine r_aload_n C eX10_keep_25 0 rfl rfl ?_
        refine r_get (v := .ref (a0 (o0 + 2))) C eX10_keep_26 FX10_55 0 rfl rfl ?_
        refine r_iload_n C eX10_keep_29 1 rfl rfl ?_
        refine r_iconst C (v := 1) eX10_keep_30 (by decide) ?_
        obtain ⟨hb8, hf⟩ := zchk hf
        refine r_zast (ws' := w_AL (z_g x) a0 o0 (sAL_kept (sAL_images1 v0 (sSh_lines (sSh_harm (sSh_ints (gAL_images1 v0) (r7.1)) (r7.2.1)) (sLi_length (sLi_post (sLi_place (sLi_fast (gSh_lines (gAL_images1 v0)) (r7.2.2.1)) (r7.2.2.2.1)) (r7.2.2.2.2.1)) (r7.2.2.2.2.2)))) (upd (gAL_kept v0) (ix p1) (vp_nar .boolean 1)))) C eX10_keep_31 2 rfl (inb_in hb8) rfl ?_
        refine r_iconst C (v := 1) eX10_keep_32 (by decide) ?_
        obtain rfl := Option.some.inj (show some ((1, (gSh_ints (gAL_images0 v0)), (gSh_harm (gAL_images0 v0)), (gLi_fast (gSh_lines (gAL_images0 v0))), (gLi_place (gSh_lines (gAL_images0 v0))), (gLi_post (gSh_lines (gAL_images0 v0))), (gLi_length (gSh_lines (gAL_images0 v0))), (r7.1), (r7.2.1), (r7.2.2.1), (r7.2.2.2.1), (r7.2.2.2.2.1), (r7.2.2.2.2.2), (upd (gAL_kept v0) (ix p1) (vp_nar .boolean 1))) : Int32 × (Nat → Int32) × Int64 × (Nat → Int32) × (Nat → Int32) × (Nat → Int32) × (Nat → Int32) × (Nat → Int32) × Int64 × (Nat → Int32) × (Nat → Int32) × (Nat → Int32) × (Nat → Int32) × (Nat → Int32)) = some _ from hf)
        exact hret _ _ _ eX10_keep_33
      rw [if_neg c6] at hf
      cases hf
    · rw [if_neg c2] at hf
      refine r_ldc C (v := (-1000000001)) eX10_keep_9 q649 ?_
      obtain rfl := Option.some.inj (show some (((-1000000001), (gSh_ints (gAL_images0 v0)), (gSh_harm (gAL_images0 v0)), (gLi_fast (gSh_lines (gAL_images0 v0))), (gLi_place (gSh_lines (gAL_images0 v0))), (gLi_post (gSh_lines (gAL_images0 v0))), (gLi_length (gSh_lines (gAL_images0 v0))), (gSh_ints (gAL_images1 v0)), (gSh_harm (gAL_images1 v0)), (gLi_fast (gSh_lines (gAL_images1 v0))), (gLi_place (gSh_lines (gAL_images1 v0))), (gLi_post (gSh_lines (gAL_images1 v0))), (gLi_length (gSh_lines (gAL_images1 v0))), (gAL_kept v0)) : Int32 × (Nat → Int32) × Int64 × (Nat → Int32) × (Nat → Int32) × (Nat → Int32) × (Nat → Int32) × (Nat → Int32) × Int64 × (Nat → Int32) × (Nat → Int32) × (Nat → Int32) × (Nat → Int32) × (Nat → Int32)) = some _ from hf)
      exact hret _ _ _ eX10_keep_11
theorem eX10_line_0 : zd 1 cX10_line 0 1 (.aload_n 0) := ⟨by decide +kernel, rfl⟩
theorem eX10_line_1 : zd 3 cX10_line 1 4 (.getfield 47) := ⟨by decide +kernel, rfl⟩
theorem eX10_line_4 : zd 3 cX10_line 4 7 (.getfield 187) := ⟨by decide +kernel, rfl⟩
theorem eX10_line_7 : zd 1 cX10_line 7 8 (.iload_n 1) := ⟨by decide +kernel, rfl⟩
theorem eX10_line_8 : zd 3 cX10_line 8 11 (.invokevirtual 191) := ⟨by decide +kernel, rfl⟩
theorem eX10_line_11 : zdi cX10_line 11 14 17 (.ifCond .ne) := ⟨6, by decide +kernel, rfl, by decide⟩
theorem eX10_line_14 : zd 2 cX10_line 14 16 (.ldc 147) := ⟨by decide +kernel, rfl⟩
theorem eX10_line_16 : zd 1 cX10_line 16 17 (.ireturn) := ⟨by decide +kernel, rfl⟩
theorem eX10_line_17 : zd 1 cX10_line 17 18 (.iload_n 2) := ⟨by decide +kernel, rfl⟩
theorem eX10_line_18 : decode cX10_line 18 = .ok (.tableswitch 118 0 4 #[34, 47, 60, 73, 86], 34) := by decide +kernel
theorem eX10_line_52 : zd 1 cX10_line 52 53 (.aload_n 0) := ⟨by decide +kernel, rfl⟩
theorem eX10_line_53 : zd 3 cX10_line 53 56 (.getfield 47) := ⟨by decide +kernel, rfl⟩
theorem eX10_line_56 : zd 3 cX10_line 56 59 (.getfield 187) := ⟨by decide +kernel, rfl⟩
theorem eX10_line_59 : zd 3 cX10_line 59 62 (.getfield 216) := ⟨by decide +kernel, rfl⟩
theorem eX10_line_62 : zd 1 cX10_line 62 63 (.iload_n 1) := ⟨by decide +kernel, rfl⟩
theorem eX10_line_63 : zd 1 cX10_line 63 64 (.iaload) := ⟨by decide +kernel, rfl⟩
theorem eX10_line_64 : zd 1 cX10_line 64 65 (.ireturn) := ⟨by decide +kernel, rfl⟩
theorem eX10_line_65 : zd 1 cX10_line 65 66 (.aload_n 0) := ⟨by decide +kernel, rfl⟩
theorem eX10_line_66 : zd 3 cX10_line 66 69 (.getfield 47) := ⟨by decide +kernel, rfl⟩
theorem eX10_line_69 : zd 3 cX10_line 69 72 (.getfield 187) := ⟨by decide +kernel, rfl⟩
theorem eX10_line_72 : zd 3 cX10_line 72 75 (.getfield 219) := ⟨by decide +kernel, rfl⟩
theorem eX10_line_75 : zd 1 cX10_line 75 76 (.iload_n 1) := ⟨by decide +kernel, rfl⟩
theorem eX10_line_76 : zd 1 cX10_line 76 77 (.iaload) := ⟨by decide +kernel, rfl⟩
theorem eX10_line_77 : zd 1 cX10_line 77 78 (.ireturn) := ⟨by decide +kernel, rfl⟩
theorem eX10_line_78 : zd 1 cX10_line 78 79 (.aload_n 0) := ⟨by decide +kernel, rfl⟩
theorem eX10_line_79 : zd 3 cX10_line 79 82 (.getfield 47) := ⟨by decide +kernel, rfl⟩
theorem eX10_line_82 : zd 3 cX10_line 82 85 (.getfield 187) := ⟨by decide +kernel, rfl⟩
theorem eX10_line_85 : zd 3 cX10_line 85 88 (.getfield 210) := ⟨by decide +kernel, rfl⟩
theorem eX10_line_88 : zd 1 cX10_line 88 89 (.iload_n 1) := ⟨by decide +kernel, rfl⟩
theorem eX10_line_89 : zd 1 cX10_line 89 90 (.iaload) := ⟨by decide +kernel, rfl⟩
theorem eX10_line_90 : zd 1 cX10_line 90 91 (.ireturn) := ⟨by decide +kernel, rfl⟩
theorem eX10_line_91 : zd 1 cX10_line 91 92 (.aload_n 0) := ⟨by decide +kernel, rfl⟩
theorem eX10_line_92 : zd 3 cX10_line 92 95 (.getfield 47) := ⟨by decide +kernel, rfl⟩
theorem eX10_line_95 : zd 1 cX10_line 95 96 (.aload_n 0) := ⟨by decide +kernel, rfl⟩
theorem eX10_line_96 : zd 3 cX10_line 96 99 (.getfield 26) := ⟨by decide +kernel, rfl⟩
theorem eX10_line_99 : zd 1 cX10_line 99 100 (.iload_n 1) := ⟨by decide +kernel, rfl⟩
theorem eX10_line_100 : zd 3 cX10_line 100 103 (.invokevirtual 222) := ⟨by decide +kernel, rfl⟩
theorem eX10_line_103 : zd 1 cX10_line 103 104 (.ireturn) := ⟨by decide +kernel, rfl⟩
theorem eX10_line_104 : zd 1 cX10_line 104 105 (.aload_n 0) := ⟨by decide +kernel, rfl⟩
theorem eX10_line_105 : zd 3 cX10_line 105 108 (.getfield 26) := ⟨by decide +kernel, rfl⟩
theorem eX10_line_108 : zd 1 cX10_line 108 109 (.aload_n 0) := ⟨by decide +kernel, rfl⟩
theorem eX10_line_109 : zd 3 cX10_line 109 112 (.getfield 47) := ⟨by decide +kernel, rfl⟩
theorem eX10_line_112 : zd 1 cX10_line 112 113 (.aload_n 0) := ⟨by decide +kernel, rfl⟩
theorem eX10_line_113 : zd 3 cX10_line 113 116 (.getfield 26) := ⟨by decide +kernel, rfl⟩
theorem eX10_line_116 : zd 1 cX10_line 116 117 (.iload_n 1) := ⟨by decide +kernel, rfl⟩
theorem eX10_line_117 : zd 3 cX10_line 117 120 (.invokevirtual 222) := ⟨by decide +kernel, rfl⟩
theorem eX10_line_120 : zd 1 cX10_line 120 121 (.aload_n 0) := ⟨by decide +kernel, rfl⟩
theorem eX10_line_121 : zd 3 cX10_line 121 124 (.getfield 47) := ⟨by decide +kernel, rfl⟩
theorem eX10_line_124 : zd 3 cX10_line 124 127 (.getfield 187) := ⟨by decide +kernel, rfl⟩
theorem eX10_line_127 : zd 3 cX10_line 127 130 (.getfield 210) := ⟨by decide +kernel, rfl⟩
theorem eX10_line_130 : zd 1 cX10_line 130 131 (.iload_n 1) := ⟨by decide +kernel, rfl⟩
theorem eX10_line_131 : zd 1 cX10_line 131 132 (.iaload) := ⟨by decide +kernel, rfl⟩
theorem eX10_line_132 : zd 3 cX10_line 132 135 (.invokestatic 226) := ⟨by decide +kernel, rfl⟩
theorem eX10_line_135 : zd 1 cX10_line 135 136 (.ireturn) := ⟨by decide +kernel, rfl⟩
theorem eX10_line_136 : zd 2 cX10_line 136 138 (.ldc 97) := ⟨by decide +kernel, rfl⟩
theorem eX10_line_138 : zd 1 cX10_line 138 139 (.ireturn) := ⟨by decide +kernel, rfl⟩
theorem FX10_216 : zlF RX10 216 1 1 := ⟨(RX1, TX1, 4), rfl, by decide, q213, zin1⟩
theorem FX10_219 : zlF RX10 219 1 2 := ⟨(RX1, TX1, 4), rfl, by decide, q217, zin1⟩
theorem MX10_222 : zlV RX10 222 yX7_lineDistance cX7_lineDistance 3 ((Option.some FieldType.int)) 2 := ⟨q853, q854, q855, q7, q856, by decide, by decide, by decide +kernel⟩
theorem MX10_226 : zlS RX10 226 yX7_pull cX7_pull 3 ((Option.some FieldType.int)) 3 := ⟨q858, q741, q7, q742, by decide, by decide, by decide +kernel⟩
noncomputable def f_AL_line (v0 : tAL) (p1 : Int32) (p2 : Int32) : Option (Int32) := (Option.bind (f_Li_isFast (gSh_lines (gAL_ship v0)) p1) (fun (r1 : Int32) => (if r1 = 0 then (some (-1000000001)) else (if p2 = 0 then (if inb p1 6 = true then (some ((gLi_place (gSh_lines (gAL_ship v0))) (ix p1))) else none) else (if p2 = 1 then (if inb p1 6 = true then (some ((gLi_post (gSh_lines (gAL_ship v0))) (ix p1))) else none) else (if p2 = 2 then (if inb p1 6 = true then (some ((gLi_length (gSh_lines (gAL_ship v0))) (ix p1))) else none) else (if p2 = 3 then (Option.bind (f_Sh_lineDistance (gAL_ship v0) (gAL_quay v0) p1) (fun (r12 : Int32) => (some r12))) else (if p2 = 4 then (Option.bind (f_Sh_lineDistance (gAL_ship v0) (gAL_quay v0) p1) (fun (r13 : Int32) => (if inb p1 6 = true then (some (f_Sh_pull (gAL_quay v0) r13 ((gLi_length (gSh_lines (gAL_ship v0))) (ix p1)))) else none))) else (some (-1000000002))))))))))
abbrev rm_AL_line : Room := { frames := 4, cells := 0, slots := 0, locals := 94 }
set_option maxHeartbeats 4000000 in
set_option maxRecDepth 100000 in
theorem c_AL_line (l : Launch) (g : zGl) (a0 : Nat → Nat) (o0 : Nat) (v0 : tAL) (p1 : Int32) (p2 : Int32) (out : Int32) (hf : f_AL_line v0 p1 p2 = some out) : zMi l yX10_line cX10_line 3 rm_AL_line g [.ref (a0 o0), .int p1, .int p2] (w_AL g a0 o0 v0) out (w_AL g a0 o0 v0) := by
  refine zMi_of (lv := [(0, .ref (a0 o0)), (1, .int p1), (2, .int p2)]) (by decide) (Nat.le_of_ble_eq_true rfl) rfl (fun x hl hg C hret => ?_)
  subst hl; subst hg
  rw [f_AL_line] at hf
  refine r_aload_n C eX10_line_0 0 rfl rfl ?_
  refine r_get (v := .ref (a0 (o0 + 27))) C eX10_line_1 FX10_47 0 rfl rfl ?_
  refine r_get (v := .ref (a0 ((o0 + 27) + 1))) C eX10_line_4 FX10_187 27 rfl rfl ?_
  refine r_iload_n C eX10_line_7 1 rfl rfl ?_
  obtain ⟨r1, hr1, hf⟩ := zbind hf
  refine r_V_z (ws' := w_AL (z_g x) a0 o0 v0) C (c_Li_isFast (z_l x) (z_g x) a0 ((o0 + 27) + 1) (gSh_lines (gAL_ship v0)) p1 r1 hr1) eX10_line_8 MX10_191 ⟨0, 1, _, _, rfl, rfl, rfl⟩ [28, 29, 30, 31, 32] rfl rfl rfl rfl rfl rfl rfl rfl rfl (fun zb2 => ?_)
  refine r_if_ne C eX10_line_11 (fun c3 => ?_) (fun c3 => ?_)
  · rw [if_neg c3] at hf
    refine r_iload_n C eX10_line_17 2 rfl rfl ?_
    by_cases c4 : p2 = 0
    · rw [if_pos c4] at hf
      refine r_tabIn C (v := 0) eX10_line_18 c4 34 52 ⟨by decide, rfl, by decide⟩ ?_
      refine r_aload_n C eX10_line_52 0 rfl rfl ?_
      refine r_get (v := .ref (a0 (o0 + 27))) C eX10_line_53 FX10_47 0 rfl rfl ?_
      refine r_get (v := .ref (a0 ((o0 + 27) + 1))) C eX10_line_56 FX10_187 27 rfl rfl ?_
      refine r_get (v := .ref (a0 (((o0 + 27) + 1) + 2))) C eX10_line_59 FX10_216 28 rfl rfl ?_
      refine r_iload_n C eX10_line_62 1 rfl rfl ?_
      obtain ⟨hb9, hf⟩ := zchk hf
      refine r_iald C eX10_line_63 30 rfl (inb_in hb9) ((gLi_place (gSh_lines (gAL_ship v0))) (ix p1)) rfl ?_
      obtain rfl := Option.some.inj (show some (((gLi_place (gSh_lines (gAL_ship v0))) (ix p1)) : Int32) = some _ from hf)
      exact hret _ _ _ eX10_line_64
    rw [if_neg c4] at hf
    by_cases c5 : p2 = 1
    · rw [if_pos c5] at hf
      refine r_tabIn C (v := 1) eX10_line_18 c5 47 65 ⟨by decide, rfl, by decide⟩ ?_
      refine r_aload_n C eX10_line_65 0 rfl rfl ?_
      refine r_get (v := .ref (a0 (o0 + 27))) C eX10_line_66 FX10_47 0 rfl rfl ?_
      refine r_get (v := .ref (a0 ((o0 + 27) + 1))) C eX10_line_69 FX10_187 27 rfl rfl ?_
      refine r_get (v := .ref (a0 (((o0 + 27) + 1) + 3))) C eX10_line_72 FX10_219 28 rfl rfl ?_
      refine r_iload_n C eX10_line_75 1 rfl rfl ?_
      obtain ⟨hb10, hf⟩ := zchk hf
      refine r_iald C eX10_line_76 31 rfl (inb_in hb10) ((gLi_post (gSh_lines (gAL_ship v0))) (ix p1)) rfl ?_
      obtain rfl := Option.some.inj (show some (((gLi_post (gSh_lines (gAL_ship v0))) (ix p1)) : Int32) = some _ from hf)
      exact hret _ _ _ eX10_line_77
    rw [if_neg c5] at hf
    by_cases c6 : p2 = 2
    · rw [if_pos c6] at hf
      refine r_tabIn C (v := 2) eX10_line_18 c6 60 78 ⟨by decide, rfl, by decide⟩ ?_
      refine r_aload_n C eX10_line_78 0 rfl rfl ?_
      refine r_get (v := .ref (a0 (o0 + 27))) C eX10_line_79 FX10_47 0 rfl rfl ?_
      refine r_get (v := .ref (a0 ((o0 + 27) + 1))) C eX10_line_82 FX10_187 27 rfl rfl ?_
      refine r_get (v := .ref (a0 (((o0 + 27) + 1) + 4))) C eX10_line_85 FX10_210 28 rfl rfl ?_
      refine r_iload_n C eX10_line_88 1 rfl rfl ?_
      obtain ⟨hb11, hf⟩ := zchk hf
      refine r_iald C eX10_line_89 32 rfl (inb_in hb11) ((gLi_length (gSh_lines (gAL_ship v0))) (ix p1)) rfl ?_
      obtain rfl := Option.some.inj (show some (((gLi_length (gSh_lines (gAL_ship v0))) (ix p1)) : Int32) = some _ from hf)
      exact hret _ _ _ eX10_line_90
    rw [if_neg c6] at hf
    by_cases c7 : p2 = 3
    · rw [if_pos c7] at hf
      refine r_tabIn C (v := 3) eX10_line_18 c7 73 91 ⟨by decide, rfl, by decide⟩ ?_
      refine r_aload_n C eX10_line_91 0 rfl rfl ?_
      refine r_get (v := .ref (a0 (o0 + 27))) C eX10_line_92 FX10_47 0 rfl rfl ?_
      refine r_aload_n C eX10_line_95 0 rfl rfl ?_
      refine r_get (v := .ref (a0 (o0 + 18))) C eX10_line_96 FX10_26 0 rfl rfl ?_
      refine r_iload_n C eX10_line_99 1 rfl rfl ?_
      obtain ⟨r12, hr12, hf⟩ := zbind hf
      refine r_V_i (ws' := w_AL (z_g x) a0 o0 v0) C (c_Sh_lineDistance (z_l x) (z_g x) a0 (o0 + 27) (gAL_ship v0) a0 (o0 + 18) (gAL_quay v0) p1 r12 hr12) eX10_line_100 MX10_222 ⟨0, 7, _, _, rfl, rfl, rfl⟩ [27, 28, 29, 30, 31, 32, 18, 19, 20] rfl rfl rfl rfl rfl rfl rfl rfl rfl ?_
      obtain rfl := Option.some.inj (show some (r12 : Int32) = some _ from hf)
      exact hret _ _ _ eX10_line_103
    rw [if_neg c7] at hf
    by_cases c8 : p2 = 4
    · rw [if_pos c8] at hf
      refine r_tabIn C (v := 4) eX10_line_18 c8 86 104 ⟨by decide, rfl, by decide⟩ ?_
      refine r_aload_n C eX10_line_104 0 rfl rfl ?_
      refine r_get (v := .ref (a0 (o0 + 18))) C eX10_line_105 FX10_26 0 rfl rfl ?_
      refine r_aload_n C eX10_line_108 0 rfl rfl ?_
      refine r_get (v := .ref (a0 (o0 + 27))) C eX10_line_109 FX10_47 0 rfl rfl ?_
      refine r_aload_n C eX10_line_112 0 rfl rfl ?_
      refine r_get (v := .ref (a0 (o0 + 18))) C eX10_line_113 FX10_26 0 rfl rfl ?_
      refine r_iload_n C eX10_line_116 1 rfl rfl ?_
      obtain ⟨r13, hr13, hf⟩ := zbind hf
      refine r_V_i (ws' := w_AL (z_g x) a0 o0 v0) C (c_Sh_lineDistance (z_l x) (z_g x) a0 (o0 + 27) (gAL_ship v0) a0 (o0 + 18) (gAL_quay v0) p1 r13 hr13) eX10_line_117 MX10_222 ⟨0, 7, _, _, rfl, rfl, rfl⟩ [27, 28, 29, 30, 31, 32, 18, 19, 20] rfl rfl rfl rfl rfl rfl rfl rfl rfl ?_
      refine r_aload_n C eX10_line_120 0 rfl rfl ?_
      refine r_get (v := .ref (a0 (o0 + 27))) C eX10_line_121 FX10_47 0 rfl rfl ?_
      refine r_get (v := .ref (a0 ((o0 + 27) + 1))) C eX10_line_124 FX10_187 27 rfl rfl ?_
      refine r_get (v := .ref (a0 (((o0 + 27) + 1) + 4))) C eX10_line_127 FX10_210 28 rfl rfl ?_
      refine r_iload_n C eX10_line_130 1 rfl rfl ?_
      obtain ⟨hb14, hf⟩ := zchk hf
      refine r_iald C eX10_line_131 32 rfl (inb_in hb14) ((gLi_length (gSh_lines (gAL_ship v0))) (ix p1)) rfl ?_
      refine r_S_i (ws' := w_AL (z_g x) a0 o0 v0) C (c_Sh_pull (z_l x) (z_g x) a0 (o0 + 18) (gAL_quay v0) r13 ((gLi_length (gSh_lines (gAL_ship v0))) (ix p1)) _ rfl) eX10_line_132 MX10_226 [18, 19, 20] rfl rfl rfl rfl rfl rfl rfl rfl rfl ?_
      obtain rfl := Option.some.inj (show some ((f_Sh_pull (gAL_quay v0) r13 ((gLi_length (gSh_lines (gAL_ship v0))) (ix p1))) : Int32) = some _ from hf)
      exact hret _ _ _ eX10_line_135
    rw [if_neg c8] at hf
    refine r_tabOut C eX10_line_18 (fun i h1 h2 => by rcases (show i = 0 ∨ i = 1 ∨ i = 2 ∨ i = 3 ∨ i = 4 by omega) with rfl | rfl | rfl | rfl | rfl <;> assumption) 136 (by decide) ?_
    refine r_ldc C (v := (-1000000002)) eX10_line_136 q424 ?_
    obtain rfl := Option.some.inj (show some ((-1000000002) : Int32) = some _ from hf)
    exact hret _ _ _ eX10_line_138
  · rw [if_pos c3] at hf
    refine r_ldc C (v := (-1000000001)) eX10_line_14 q649 ?_
    obtain rfl := Option.some.inj (show some ((-1000000001) : Int32) = some _ from hf)
    exact hret _ _ _ eX10_line_16
theorem eX10_log_0 : zd 1 cX10_log 0 1 (.iload_n 1) := ⟨by decide +kernel, rfl⟩
theorem eX10_log_1 : zd 3 cX10_log 1 4 (.ldc_w 299) := ⟨by decide +kernel, rfl⟩
theorem eX10_log_4 : zdi cX10_log 4 7 14 (.if_icmp .lt) := ⟨10, by decide +kernel, rfl, by decide⟩
theorem eX10_log_7 : zd 1 cX10_log 7 8 (.iload_n 1) := ⟨by decide +kernel, rfl⟩
theorem eX10_log_8 : zd 3 cX10_log 8 11 (.ldc_w 300) := ⟨by decide +kernel, rfl⟩
theorem eX10_log_11 : zdi cX10_log 11 14 17 (.if_icmp .le) := ⟨6, by decide +kernel, rfl, by decide⟩
theorem eX10_log_14 : zd 2 cX10_log 14 16 (.ldc 97) := ⟨by decide +kernel, rfl⟩
theorem eX10_log_16 : zd 1 cX10_log 16 17 (.ireturn) := ⟨by decide +kernel, rfl⟩
theorem eX10_log_17 : zd 1 cX10_log 17 18 (.aload_n 0) := ⟨by decide +kernel, rfl⟩
theorem eX10_log_18 : zd 3 cX10_log 18 21 (.getfield 301) := ⟨by decide +kernel, rfl⟩
theorem eX10_log_21 : zd 2 cX10_log 21 23 (.bipush 60) := ⟨by decide +kernel, rfl⟩
theorem eX10_log_23 : zdi cX10_log 23 26 29 (.if_icmp .lt) := ⟨6, by decide +kernel, rfl, by decide⟩
theorem eX10_log_26 : zd 2 cX10_log 26 28 (.ldc 101) := ⟨by decide +kernel, rfl⟩
theorem eX10_log_28 : zd 1 cX10_log 28 29 (.ireturn) := ⟨by decide +kernel, rfl⟩
theorem eX10_log_29 : zd 1 cX10_log 29 30 (.aload_n 0) := ⟨by decide +kernel, rfl⟩
theorem eX10_log_30 : zd 3 cX10_log 30 33 (.getfield 59) := ⟨by decide +kernel, rfl⟩
theorem eX10_log_33 : zd 1 cX10_log 33 34 (.aload_n 0) := ⟨by decide +kernel, rfl⟩
theorem eX10_log_34 : zd 3 cX10_log 34 37 (.getfield 301) := ⟨by decide +kernel, rfl⟩
theorem eX10_log_37 : zd 1 cX10_log 37 38 (.iload_n 1) := ⟨by decide +kernel, rfl⟩
theorem eX10_log_38 : zd 1 cX10_log 38 39 (.iastore) := ⟨by decide +kernel, rfl⟩
theorem eX10_log_39 : zd 1 cX10_log 39 40 (.aload_n 0) := ⟨by decide +kernel, rfl⟩
theorem eX10_log_40 : zd 1 cX10_log 40 41 (.dup) := ⟨by decide +kernel, rfl⟩
theorem eX10_log_41 : zd 3 cX10_log 41 44 (.getfield 301) := ⟨by decide +kernel, rfl⟩
theorem eX10_log_44 : zd 1 cX10_log 44 45 (.iconst 1) := ⟨by decide +kernel, rfl⟩
theorem eX10_log_45 : zd 1 cX10_log 45 46 (.iadd) := ⟨by decide +kernel, rfl⟩
theorem eX10_log_46 : zd 3 cX10_log 46 49 (.putfield 301) := ⟨by decide +kernel, rfl⟩
theorem eX10_log_49 : zd 1 cX10_log 49 50 (.aload_n 0) := ⟨by decide +kernel, rfl⟩
theorem eX10_log_50 : zd 3 cX10_log 50 53 (.getfield 301) := ⟨by decide +kernel, rfl⟩
theorem eX10_log_53 : zd 1 cX10_log 53 54 (.ireturn) := ⟨by decide +kernel, rfl⟩
noncomputable def f_AL_log (v0 : tAL) (p1 : Int32) : Option (Int32 × (Nat → Int32) × (Nat → Int32)) := (if p1 < (-99999) then (some ((-1000000002), (gAL_ints v0), (gAL_logged v0))) else (if p1 ≤ 99999 then (if ((gAL_ints v0) 13) < 60 then (if inb ((gAL_ints v0) 13) 60 = true then (zlet (((gAL_ints v0) 13) + 1) (fun (z5 : Int32) => (some (z5, (upd (gAL_ints v0) 13 z5), (upd (gAL_logged v0) (ix ((gAL_ints v0) 13)) p1))))) else none) else (some ((-1000000004), (gAL_ints v0), (gAL_logged v0)))) else (some ((-1000000002), (gAL_ints v0), (gAL_logged v0)))))
abbrev rm_AL_log : Room := { frames := 0, cells := 0, slots := 0, locals := 0 }
set_option maxHeartbeats 4000000 in
set_option maxRecDepth 100000 in
theorem c_AL_log (l : Launch) (g : zGl) (a0 : Nat → Nat) (o0 : Nat) (v0 : tAL) (p1 : Int32) (out : Int32 × (Nat → Int32) × (Nat → Int32)) (hf : f_AL_log v0 p1 = some out) : zMi l yX10_log cX10_log 2 rm_AL_log g [.ref (a0 o0), .int p1] (w_AL g a0 o0 v0) (out.1) (w_AL g a0 o0 (sAL_logged (sAL_ints v0 (out.2.1)) (out.2.2))) := by
  refine zMi_of (lv := [(0, .ref (a0 o0)), (1, .int p1)]) (by decide) (Nat.le_of_ble_eq_true rfl) rfl (fun x hl hg C hret => ?_)
  subst hl; subst hg
  rw [f_AL_log] at hf
  refine r_iload_n C eX10_log_0 1 rfl rfl ?_
  refine r_ldc_w C (v := (-99999)) eX10_log_1 q1032 ?_
  refine r_icmp_lt C eX10_log_4 (fun c1 => ?_) (fun c1 => ?_)
  · rw [if_pos c1] at hf
    refine r_ldc C (v := (-1000000002)) eX10_log_14 q424 ?_
    obtain rfl := Option.some.inj (show some (((-1000000002), (gAL_ints v0), (gAL_logged v0)) : Int32 × (Nat → Int32) × (Nat → Int32)) = some _ from hf)
    exact hret _ _ _ eX10_log_16
  · rw [if_neg c1] at hf
    refine r_iload_n C eX10_log_7 1 rfl rfl ?_
    refine r_ldc_w C (v := 99999) eX10_log_8 q1033 ?_
    refine r_icmp_le C eX10_log_11 (fun c2 => ?_) (fun c2 => ?_)
    · rw [if_pos c2] at hf
      refine r_aload_n C eX10_log_17 0 rfl rfl ?_
      refine r_get (v := .int ((gAL_ints v0) 13)) C eX10_log_18 FX10_301 0 rfl rfl ?_
      refine r_bipush C (v := 60) eX10_log_21 (by decide) ?_
      refine r_icmp_lt C eX10_log_23 (fun c3 => ?_) (fun c3 => ?_)
      · rw [if_pos c3] at hf
        refine r_aload_n C eX10_log_29 0 rfl rfl ?_
        refine r_get (v := .ref (a0 (o0 + 3))) C eX10_log_30 FX10_59 0 rfl rfl ?_
        refine r_aload_n C eX10_log_33 0 rfl rfl ?_
        refine r_get (v := .int ((gAL_ints v0) 13)) C eX10_log_34 FX10_301 0 rfl rfl ?_
        refine r_iload_n C eX10_log_37 1 rfl rfl ?_
        obtain ⟨hb4, hf⟩ := zchk hf
        refine r_iast (ws' := w_AL (z_g x) a0 o0 (sAL_logged v0 (upd (gAL_logged v0) (ix ((gAL_ints v0) 13)) p1))) C eX10_log_38 3 rfl (inb_in hb4) rfl ?_
        refine r_aload_n C eX10_log_39 0 rfl rfl ?_
        refine r_dup C eX10_log_40 rfl ?_
        refine r_get (v := .int ((gAL_ints v0) 13)) C eX10_log_41 FX10_301 0 rfl rfl ?_
        refine r_iconst C (v := 1) eX10_log_44 (by decide) ?_
        refine r_iadd C eX10_log_45 ?_
        obtain ⟨z5, hz5, hf⟩ := zlet_of hf
        refine r_nami hz5 ?_
        refine r_put (ws' := w_AL (z_g x) a0 o0 (sAL_logged (sAL_ints v0 (upd (gAL_ints v0) 13 z5)) (upd (gAL_logged v0) (ix ((gAL_ints v0) 13)) p1))) C eX10_log_46 PX10_301 0 rfl rfl rfl (Nat.le_of_ble_eq_true rfl) rfl ?_
        refine r_aload_n C eX10_log_49 0 rfl rfl ?_
        refine r_get (v := .int z5) C eX10_log_50 FX10_301 0 rfl rfl ?_
        obtain rfl := Option.some.inj (show some ((z5, (upd (gAL_ints v0) 13 z5), (upd (gAL_logged v0) (ix ((gAL_ints v0) 13)) p1)) : Int32 × (Nat → Int32) × (Nat → Int32)) = some _ from hf)
        exact hret _ _ _ eX10_log_53
      · rw [if_neg c3] at hf
        refine r_ldc C (v := (-1000000004)) eX10_log_26 q425 ?_
        obtain rfl := Option.some.inj (show some (((-1000000004), (gAL_ints v0), (gAL_logged v0)) : Int32 × (Nat → Int32) × (Nat → Int32)) = some _ from hf)
        exact hret _ _ _ eX10_log_28
    · rw [if_neg c2] at hf
      refine r_ldc C (v := (-1000000002)) eX10_log_14 q424 ?_
      obtain rfl := Option.some.inj (show some (((-1000000002), (gAL_ints v0), (gAL_logged v0)) : Int32 × (Nat → Int32) × (Nat → Int32)) = some _ from hf)
      exact hret _ _ _ eX10_log_16
theorem eX10_needs_0 : zd 1 cX10_needs 0 1 (.aload_n 0) := ⟨by decide +kernel, rfl⟩
theorem eX10_needs_1 : zd 3 cX10_needs 1 4 (.getfield 47) := ⟨by decide +kernel, rfl⟩
theorem eX10_needs_4 : zd 3 cX10_needs 4 7 (.getfield 187) := ⟨by decide +kernel, rfl⟩
theorem eX10_needs_7 : zd 1 cX10_needs 7 8 (.iload_n 1) := ⟨by decide +kernel, rfl⟩
theorem eX10_needs_8 : zd 3 cX10_needs 8 11 (.invokevirtual 191) := ⟨by decide +kernel, rfl⟩
theorem eX10_needs_11 : zdi cX10_needs 11 14 25 (.ifCond .eq) := ⟨14, by decide +kernel, rfl, by decide⟩
theorem eX10_needs_14 : zd 1 cX10_needs 14 15 (.aload_n 0) := ⟨by decide +kernel, rfl⟩
theorem eX10_needs_15 : zd 3 cX10_needs 15 18 (.getfield 40) := ⟨by decide +kernel, rfl⟩
theorem eX10_needs_18 : zd 1 cX10_needs 18 19 (.iload_n 2) := ⟨by decide +kernel, rfl⟩
theorem eX10_needs_19 : zd 3 cX10_needs 19 22 (.invokevirtual 262) := ⟨by decide +kernel, rfl⟩
theorem eX10_needs_22 : zdi cX10_needs 22 25 28 (.ifCond .ne) := ⟨6, by decide +kernel, rfl, by decide⟩
theorem eX10_needs_25 : zd 2 cX10_needs 25 27 (.ldc 147) := ⟨by decide +kernel, rfl⟩
theorem eX10_needs_27 : zd 1 cX10_needs 27 28 (.ireturn) := ⟨by decide +kernel, rfl⟩
theorem eX10_needs_28 : zd 1 cX10_needs 28 29 (.iload_n 3) := ⟨by decide +kernel, rfl⟩
theorem eX10_needs_29 : zd 3 cX10_needs 29 32 (.invokestatic 265) := ⟨by decide +kernel, rfl⟩
theorem eX10_needs_32 : zdi cX10_needs 32 35 38 (.ifCond .ne) := ⟨6, by decide +kernel, rfl, by decide⟩
theorem eX10_needs_35 : zd 2 cX10_needs 35 37 (.ldc 97) := ⟨by decide +kernel, rfl⟩
theorem eX10_needs_37 : zd 1 cX10_needs 37 38 (.ireturn) := ⟨by decide +kernel, rfl⟩
theorem eX10_needs_38 : zd 1 cX10_needs 38 39 (.aload_n 0) := ⟨by decide +kernel, rfl⟩
theorem eX10_needs_39 : zd 3 cX10_needs 39 42 (.getfield 47) := ⟨by decide +kernel, rfl⟩
theorem eX10_needs_42 : zd 1 cX10_needs 42 43 (.aload_n 0) := ⟨by decide +kernel, rfl⟩
theorem eX10_needs_43 : zd 3 cX10_needs 43 46 (.getfield 26) := ⟨by decide +kernel, rfl⟩
theorem eX10_needs_46 : zd 1 cX10_needs 46 47 (.iload_n 1) := ⟨by decide +kernel, rfl⟩
theorem eX10_needs_47 : zd 3 cX10_needs 47 50 (.invokevirtual 268) := ⟨by decide +kernel, rfl⟩
theorem eX10_needs_50 : zd 1 cX10_needs 50 51 (.iload_n 3) := ⟨by decide +kernel, rfl⟩
theorem eX10_needs_51 : zd 1 cX10_needs 51 52 (.aload_n 0) := ⟨by decide +kernel, rfl⟩
theorem eX10_needs_52 : zd 3 cX10_needs 52 55 (.getfield 40) := ⟨by decide +kernel, rfl⟩
theorem eX10_needs_55 : zd 1 cX10_needs 55 56 (.iload_n 2) := ⟨by decide +kernel, rfl⟩
theorem eX10_needs_56 : zd 3 cX10_needs 56 59 (.invokevirtual 271) := ⟨by decide +kernel, rfl⟩
theorem eX10_needs_59 : zd 3 cX10_needs 59 62 (.invokestatic 274) := ⟨by decide +kernel, rfl⟩
theorem eX10_needs_62 : zd 1 cX10_needs 62 63 (.ireturn) := ⟨by decide +kernel, rfl⟩
theorem FX10_40 : zlF RX10 40 10 4 := ⟨(RX10, TX10, 15), rfl, by decide, q378, zin10⟩
theorem MX10_262 : zlV RX10 262 yX9_hasHour cX9_hasHour 2 ((Option.some FieldType.boolean)) 1 := ⟨q948, q949, q950, q6, q951, by decide, by decide, by decide +kernel⟩
theorem MX10_265 : zlS RX10 265 yX2_isDeck cX2_isDeck 1 ((Option.some FieldType.boolean)) 1 := ⟨q952, q953, q10, q954, by decide, by decide, by decide +kernel⟩
theorem MX10_268 : zlV RX10 268 yX7_lineAlong cX7_lineAlong 3 ((Option.some FieldType.int)) 2 := ⟨q955, q956, q957, q7, q958, by decide, by decide, by decide +kernel⟩
theorem MX10_271 : zlV RX10 271 yX9_heightAt cX9_heightAt 2 ((Option.some FieldType.int)) 1 := ⟨q959, q960, q961, q6, q962, by decide, by decide, by decide +kernel⟩
theorem MX10_274 : zlS RX10 274 yX2_lengthNeeded cX2_lengthNeeded 3 ((Option.some FieldType.int)) 3 := ⟨q964, q965, q10, q966, by decide, by decide, by decide +kernel⟩
noncomputable def f_AL_needs (v0 : tAL) (p1 : Int32) (p2 : Int32) (p3 : Int32) : Option (Int32) := (Option.bind (f_Li_isFast (gSh_lines (gAL_ship v0)) p1) (fun (r1 : Int32) => (if r1 = 0 then (some (-1000000001)) else (if (f_Ti_hasHour (gAL_tide v0) p2) = 0 then (some (-1000000001)) else (if (f_Ni_isDeck p3) = 0 then (some (-1000000002)) else (Option.bind (f_Sh_lineAlong (gAL_ship v0) (gAL_quay v0) p1) (fun (r8 : Int32) => (Option.bind (f_Ti_heightAt (gAL_tide v0) p2) (fun (r9 : Int32) => (Option.bind (f_Ni_lengthNeeded r8 p3 r9) (fun (r10 : Int32) => (some r10))))))))))))
abbrev rm_AL_needs : Room := { frames := 3, cells := 0, slots := 0, locals := 71 }
set_option maxHeartbeats 4000000 in
set_option maxRecDepth 100000 in
theorem c_AL_needs (l : Launch) (g : zGl) (a0 : Nat → Nat) (o0 : Nat) (v0 : tAL) (p1 : Int32) (p2 : Int32) (p3 : Int32) (out : Int32) (hf : f_AL_needs v0 p1 p2 p3 = some out) : zMi l yX10_needs cX10_needs 4 rm_AL_needs g [.ref (a0 o0), .int p1, .int p2, .int p3] (w_AL g a0 o0 v0) out (w_AL g a0 o0 v0) := by
  refine zMi_of (lv := [(0, .ref (a0 o0)), (1, .int p1), (2, .int p2), (3, .int p3)]) (by decide) (Nat.le_of_ble_eq_true rfl) rfl (fun x hl hg C hret => ?_)
  subst hl; subst hg
  rw [f_AL_needs] at hf
  refine r_aload_n C eX10_needs_0 0 rfl rfl ?_
  refine r_get (v := .ref (a0 (o0 + 27))) C eX10_needs_1 FX10_47 0 rfl rfl ?_
  refine r_get (v := .ref (a0 ((o0 + 27) + 1))) C eX10_needs_4 FX10_187 27 rfl rfl ?_
  refine r_iload_n C eX10_needs_7 1 rfl rfl ?_
  obtain ⟨r1, hr1, hf⟩ := zbind hf
  refine r_V_z (ws' := w_AL (z_g x) a0 o0 v0) C (c_Li_isFast (z_l x) (z_g x) a0 ((o0 + 27) + 1) (gSh_lines (gAL_ship v0)) p1 r1 hr1) eX10_needs_8 MX10_191 ⟨0, 1, _, _, rfl, rfl, rfl⟩ [28, 29, 30, 31, 32] rfl rfl rfl rfl rfl rfl rfl rfl rfl (fun zb2 => ?_)
  refine r_if_eq C eX10_needs_11 (fun c3 => ?_) (fun c3 => ?_)
  · rw [if_pos c3] at hf
    refine r_ldc C (v := (-1000000001)) eX10_needs_25 q649 ?_
    obtain rfl := Option.some.inj (show some ((-1000000001) : Int32) = some _ from hf)
    exact hret _ _ _ eX10_needs_27
  · rw [if_neg c3] at hf
    refine r_aload_n C eX10_needs_14 0 rfl rfl ?_
    refine r_get (v := .ref (a0 (o0 + 25))) C eX10_needs_15 FX10_40 0 rfl rfl ?_
    refine r_iload_n C eX10_needs_18 2 rfl rfl ?_
    refine r_V_z (ws' := w_AL (z_g x) a0 o0 v0) C (c_Ti_hasHour (z_l x) (z_g x) a0 (o0 + 25) (gAL_tide v0) p2 _ rfl) eX10_needs_19 MX10_262 ⟨0, 9, _, _, rfl, rfl, rfl⟩ [25, 26] rfl rfl rfl rfl rfl rfl rfl rfl rfl (fun zb4 => ?_)
    refine r_if_ne C eX10_needs_22 (fun c5 => ?_) (fun c5 => ?_)
    · rw [if_neg c5] at hf
      refine r_iload_n C eX10_needs_28 3 rfl rfl ?_
      refine r_S_z (ws' := w_AL (z_g x) a0 o0 v0) C (c_Ni_isDeck (z_l x) (z_g x)  p3 _ rfl) eX10_needs_29 MX10_265 [] rfl rfl rfl rfl rfl rfl rfl rfl rfl (fun zb6 => ?_)
      refine r_if_ne C eX10_needs_32 (fun c7 => ?_) (fun c7 => ?_)
      · rw [if_neg c7] at hf
        refine r_aload_n C eX10_needs_38 0 rfl rfl ?_
        refine r_get (v := .ref (a0 (o0 + 27))) C eX10_needs_39 FX10_47 0 rfl rfl ?_
        refine r_aload_n C eX10_needs_42 0 rfl rfl ?_
        refine r_get (v := .ref (a0 (o0 + 18))) C eX10_needs_43 FX10_26 0 rfl rfl ?_
        refine r_iload_n C eX10_needs_46 1 rfl rfl ?_
        obtain ⟨r8, hr8, hf⟩ := zbind hf
        refine r_V_i (ws' := w_AL (z_g x) a0 o0 v0) C (c_Sh_lineAlong (z_l x) (z_g x) a0 (o0 + 27) (gAL_ship v0) a0 (o0 + 18) (gAL_quay v0) p1 r8 hr8) eX10_needs_47 MX10_268 ⟨0, 7, _, _, rfl, rfl, rfl⟩ [27, 28, 29, 30, 31, 32, 18, 19, 20] rfl rfl rfl rfl rfl rfl rfl rfl rfl ?_
        refine r_iload_n C eX10_needs_50 3 rfl rfl ?_
        refine r_aload_n C eX10_needs_51 0 rfl rfl ?_
        refine r_get (v := .ref (a0 (o0 + 25))) C eX10_needs_52 FX10_40 0 rfl rfl ?_
        refine r_iload_n C eX10_needs_55 2 rfl rfl ?_
        obtain ⟨r9, hr9, hf⟩ := zbind hf
        refine r_V_i (ws' := w_AL (z_g x) a0 o0 v0) C (c_Ti_heightAt (z_l x) (z_g x) a0 (o0 + 25) (gAL_tide v0) p2 r9 hr9) eX10_needs_56 MX10_271 ⟨0, 9, _, _, rfl, rfl, rfl⟩ [25, 26] rfl rfl rfl rfl rfl rfl rfl rfl rfl ?_
        obtain ⟨r10, hr10, hf⟩ := zbind hf
        refine r_S_i (ws' := w_AL (z_g x) a0 o0 v0) C (c_Ni_lengthNeeded (z_l x) (z_g x)  r8 p3 r9 r10 hr10) eX10_needs_59 MX10_274 [] rfl rfl rfl rfl rfl rfl rfl rfl rfl ?_
        obtain rfl := Option.some.inj (show some (r10 : Int32) = some _ from hf)
        exact hret _ _ _ eX10_needs_62
      · rw [if_pos c7] at hf
        refine r_ldc C (v := (-1000000002)) eX10_needs_35 q424 ?_
        obtain rfl := Option.some.inj (show some ((-1000000002) : Int32) = some _ from hf)
        exact hret _ _ _ eX10_needs_37
    · rw [if_pos c5] at hf
      refine r_ldc C (v := (-1000000001)) eX10_needs_25 q649 ?_
      obtain rfl := Option.some.inj (show some ((-1000000001) : Int32) = some _ from hf)
      exact hret _ _ _ eX10_needs_27
theorem eX10_readingOf_0 : zd 1 cX10_readingOf 0 1 (.iload_n 2) := ⟨by decide +kernel, rfl⟩
theorem eX10_readingOf_1 : decode cX10_readingOf 1 = .ok (.tableswitch 91 10 15 #[39, 91, 91, 44, 59, 74], 39) := by decide +kernel
theorem eX10_readingOf_40 : zd 1 cX10_readingOf 40 41 (.aload_n 1) := ⟨by decide +kernel, rfl⟩
theorem eX10_readingOf_41 : zd 3 cX10_readingOf 41 44 (.getfield 324) := ⟨by decide +kernel, rfl⟩
theorem eX10_readingOf_44 : zd 1 cX10_readingOf 44 45 (.lreturn) := ⟨by decide +kernel, rfl⟩
theorem eX10_readingOf_45 : zd 1 cX10_readingOf 45 46 (.aload_n 1) := ⟨by decide +kernel, rfl⟩
theorem eX10_readingOf_46 : zd 1 cX10_readingOf 46 47 (.aload_n 0) := ⟨by decide +kernel, rfl⟩
theorem eX10_readingOf_47 : zd 3 cX10_readingOf 47 50 (.getfield 26) := ⟨by decide +kernel, rfl⟩
theorem eX10_readingOf_50 : zd 2 cX10_readingOf 50 52 (.bipush 100) := ⟨by decide +kernel, rfl⟩
theorem eX10_readingOf_52 : zd 3 cX10_readingOf 52 55 (.invokevirtual 328) := ⟨by decide +kernel, rfl⟩
theorem eX10_readingOf_55 : zd 3 cX10_readingOf 55 58 (.invokevirtual 331) := ⟨by decide +kernel, rfl⟩
theorem eX10_readingOf_58 : zd 1 cX10_readingOf 58 59 (.i2l) := ⟨by decide +kernel, rfl⟩
theorem eX10_readingOf_59 : zd 1 cX10_readingOf 59 60 (.lreturn) := ⟨by decide +kernel, rfl⟩
theorem eX10_readingOf_60 : zd 1 cX10_readingOf 60 61 (.aload_n 1) := ⟨by decide +kernel, rfl⟩
theorem eX10_readingOf_61 : zd 1 cX10_readingOf 61 62 (.aload_n 0) := ⟨by decide +kernel, rfl⟩
theorem eX10_readingOf_62 : zd 3 cX10_readingOf 62 65 (.getfield 26) := ⟨by decide +kernel, rfl⟩
theorem eX10_readingOf_65 : zd 2 cX10_readingOf 65 67 (.bipush (-100)) := ⟨by decide +kernel, rfl⟩
theorem eX10_readingOf_67 : zd 3 cX10_readingOf 67 70 (.invokevirtual 328) := ⟨by decide +kernel, rfl⟩
theorem eX10_readingOf_70 : zd 3 cX10_readingOf 70 73 (.invokevirtual 331) := ⟨by decide +kernel, rfl⟩
theorem eX10_readingOf_73 : zd 1 cX10_readingOf 73 74 (.i2l) := ⟨by decide +kernel, rfl⟩
theorem eX10_readingOf_74 : zd 1 cX10_readingOf 74 75 (.lreturn) := ⟨by decide +kernel, rfl⟩
theorem eX10_readingOf_75 : zd 1 cX10_readingOf 75 76 (.aload_n 1) := ⟨by decide +kernel, rfl⟩
theorem eX10_readingOf_76 : zd 1 cX10_readingOf 76 77 (.aload_n 0) := ⟨by decide +kernel, rfl⟩
theorem eX10_readingOf_77 : zd 3 cX10_readingOf 77 80 (.getfield 26) := ⟨by decide +kernel, rfl⟩
theorem eX10_readingOf_80 : zd 3 cX10_readingOf 80 83 (.invokevirtual 334) := ⟨by decide +kernel, rfl⟩
theorem eX10_readingOf_83 : zdi cX10_readingOf 83 86 90 (.ifCond .eq) := ⟨7, by decide +kernel, rfl, by decide⟩
theorem eX10_readingOf_86 : zd 1 cX10_readingOf 86 87 (.lconst 1) := ⟨by decide +kernel, rfl⟩
theorem eX10_readingOf_87 : zdi cX10_readingOf 87 90 91 (.goto) := ⟨4, by decide +kernel, rfl, by decide⟩
theorem eX10_readingOf_90 : zd 1 cX10_readingOf 90 91 (.lconst 0) := ⟨by decide +kernel, rfl⟩
theorem eX10_readingOf_91 : zd 1 cX10_readingOf 91 92 (.lreturn) := ⟨by decide +kernel, rfl⟩
theorem eX10_readingOf_92 : zd 1 cX10_readingOf 92 93 (.aload_n 1) := ⟨by decide +kernel, rfl⟩
theorem eX10_readingOf_93 : zd 1 cX10_readingOf 93 94 (.iload_n 2) := ⟨by decide +kernel, rfl⟩
theorem eX10_readingOf_94 : zd 3 cX10_readingOf 94 97 (.invokevirtual 158) := ⟨by decide +kernel, rfl⟩
theorem eX10_readingOf_97 : zd 1 cX10_readingOf 97 98 (.i2l) := ⟨by decide +kernel, rfl⟩
theorem eX10_readingOf_98 : zd 1 cX10_readingOf 98 99 (.lreturn) := ⟨by decide +kernel, rfl⟩
theorem FX10_324 : zlF RX10 324 7 13 := ⟨(RX7, TX7, 18), rfl, by decide, q254, zin7⟩
theorem MX10_158 : zlV RX10 158 yX7_reading cX7_reading 2 ((Option.some FieldType.int)) 1 := ⟨q669, q670, q671, q7, q672, by decide, by decide, by decide +kernel⟩
theorem MX10_328 : zlV RX10 328 yX4_arm cX4_arm 2 ((Option.some FieldType.int)) 1 := ⟨q687, q688, q689, q4, q690, by decide, by decide, by decide +kernel⟩
theorem MX10_331 : zlV RX10 331 yX7_wayOff cX7_wayOff 2 ((Option.some FieldType.int)) 1 := ⟨q691, q692, q693, q7, q694, by decide, by decide, by decide +kernel⟩
theorem MX10_334 : zlV RX10 334 yX7_isSafe cX7_isSafe 2 ((Option.some FieldType.boolean)) 1 := ⟨q703, q704, q705, q7, q706, by decide, by decide, by decide +kernel⟩
noncomputable def f_AL_readingOf (v0 : tAL) (v1 : tSh) (p1 : Int32) : Option (Int64) := (if p1 = 10 then (some (gSh_harm v1)) else (if p1 = 11 then (Option.bind (f_Sh_reading v1 p1) (fun (r7 : Int32) => (some r7.toInt64))) else (if p1 = 12 then (Option.bind (f_Sh_reading v1 p1) (fun (r8 : Int32) => (some r8.toInt64))) else (if p1 = 13 then (some (f_Sh_wayOff v1 (f_Qu_arm (gAL_quay v0) 100)).toInt64) else (if p1 = 14 then (some (f_Sh_wayOff v1 (f_Qu_arm (gAL_quay v0) (-100))).toInt64) else (if p1 = 15 then (if (f_Sh_isSafe v1 (gAL_quay v0)) = 0 then (some 0) else (some 1)) else (Option.bind (f_Sh_reading v1 p1) (fun (r11 : Int32) => (some r11.toInt64)))))))))
abbrev rm_AL_readingOf : Room := { frames := 4, cells := 0, slots := 0, locals := 85 }
set_option maxHeartbeats 4000000 in
set_option maxRecDepth 100000 in
theorem c_AL_readingOf (l : Launch) (g : zGl) (a0 : Nat → Nat) (o0 : Nat) (v0 : tAL) (a1 : Nat → Nat) (o1 : Nat) (v1 : tSh) (p1 : Int32) (out : Int64) (hf : f_AL_readingOf v0 v1 p1 = some out) : zMl l yX10_readingOf cX10_readingOf 3 rm_AL_readingOf g [.ref (a0 o0), .ref (a1 o1), .int p1] (w_AL g a0 o0 v0 ++ w_Sh g a1 o1 v1) out (w_AL g a0 o0 v0 ++ w_Sh g a1 o1 v1) := by
  refine zMl_of (lv := [(0, .ref (a0 o0)), (1, .ref (a1 o1)), (2, .int p1)]) (by decide) (Nat.le_of_ble_eq_true rfl) rfl (fun x hl hg C hret => ?_)
  subst hl; subst hg
  rw [f_AL_readingOf] at hf
  refine r_iload_n C eX10_readingOf_0 2 rfl rfl ?_
  by_cases c1 : p1 = 10
  · rw [if_pos c1] at hf
    refine r_tabIn C (v := 10) eX10_readingOf_1 c1 39 40 ⟨by decide, rfl, by decide⟩ ?_
    refine r_aload_n C eX10_readingOf_40 1 rfl rfl ?_
    refine r_get (v := .long (gSh_harm v1)) C eX10_readingOf_41 FX10_324 73 rfl rfl ?_
    obtain rfl := Option.some.inj (show some ((gSh_harm v1) : Int64) = some _ from hf)
    exact hret _ _ _ eX10_readingOf_44
  rw [if_neg c1] at hf
  by_cases c2 : p1 = 11
  · rw [if_pos c2] at hf
    refine r_tabIn C (v := 11) eX10_readingOf_1 c2 91 92 ⟨by decide, rfl, by decide⟩ ?_
    refine r_aload_n C eX10_readingOf_92 1 rfl rfl ?_
    refine r_iload_n C eX10_readingOf_93 2 rfl rfl ?_
    obtain ⟨r7, hr7, hf⟩ := zbind hf
    refine r_V_i (ws' := w_AL (z_g x) a0 o0 v0 ++ w_Sh (z_g x) a1 o1 v1) C (c_Sh_reading (z_l x) (z_g x) a1 o1 v1 p1 r7 hr7) eX10_readingOf_94 MX10_158 ⟨0, 7, _, _, rfl, rfl, rfl⟩ [73, 74, 75, 76, 77, 78] rfl rfl rfl rfl rfl rfl rfl rfl rfl ?_
    refine r_i2l C eX10_readingOf_97 ?_
    obtain rfl := Option.some.inj (show some (r7.toInt64 : Int64) = some _ from hf)
    exact hret _ _ _ eX10_readingOf_98
  rw [if_neg c2] at hf
  by_cases c3 : p1 = 12
  · rw [if_pos c3] at hf
    refine r_tabIn C (v := 12) eX10_readingOf_1 c3 91 92 ⟨by decide, rfl, by decide⟩ ?_
    refine r_aload_n C eX10_readingOf_92 1 rfl rfl ?_
    refine r_iload_n C eX10_readingOf_93 2 rfl rfl ?_
    obtain ⟨r8, hr8, hf⟩ := zbind hf
    refine r_V_i (ws' := w_AL (z_g x) a0 o0 v0 ++ w_Sh (z_g x) a1 o1 v1) C (c_Sh_reading (z_l x) (z_g x) a1 o1 v1 p1 r8 hr8) eX10_readingOf_94 MX10_158 ⟨0, 7, _, _, rfl, rfl, rfl⟩ [73, 74, 75, 76, 77, 78] rfl rfl rfl rfl rfl rfl rfl rfl rfl ?_
    refine r_i2l C eX10_readingOf_97 ?_
    obtain rfl := Option.some.inj (show some (r8.toInt64 : Int64) = some _ from hf)
    exact hret _ _ _ eX10_readingOf_98
  rw [if_neg c3] at hf
  by_cases c4 : p1 = 13
  · rw [if_pos c4] at hf
    refine r_tabIn C (v := 13) eX10_readingOf_1 c4 44 45 ⟨by decide, rfl, by decide⟩ ?_
    refine r_aload_n C eX10_readingOf_45 1 rfl rfl ?_
    refine r_aload_n C eX10_readingOf_46 0 rfl rfl ?_
    refine r_get (v := .ref (a0 (o0 + 18))) C eX10_readingOf_47 FX10_26 0 rfl rfl ?_
    refine r_bipush C (v := 100) eX10_readingOf_50 (by decide) ?_
    refine r_V_i (ws' := w_AL (z_g x) a0 o0 v0 ++ w_Sh (z_g x) a1 o1 v1) C (c_Qu_arm (z_l x) (z_g x) a0 (o0 + 18) (gAL_quay v0) 100 _ rfl) eX10_readingOf_52 MX10_328 ⟨0, 4, _, _, rfl, rfl, rfl⟩ [18, 19, 20] rfl rfl rfl rfl rfl rfl rfl rfl rfl ?_
    refine r_V_i (ws' := w_AL (z_g x) a0 o0 v0 ++ w_Sh (z_g x) a1 o1 v1) C (c_Sh_wayOff (z_l x) (z_g x) a1 o1 v1 (f_Qu_arm (gAL_quay v0) 100) _ rfl) eX10_readingOf_55 MX10_331 ⟨0, 7, _, _, rfl, rfl, rfl⟩ [73, 74, 75, 76, 77, 78] rfl rfl rfl rfl rfl rfl rfl rfl rfl ?_
    refine r_i2l C eX10_readingOf_58 ?_
    obtain rfl := Option.some.inj (show some ((f_Sh_wayOff v1 (f_Qu_arm (gAL_quay v0) 100)).toInt64 : Int64) = some _ from hf)
    exact hret _ _ _ eX10_readingOf_59
  rw [if_neg c4] at hf
  by_cases c5 : p1 = 14
  · rw [if_pos c5] at hf
    refine r_tabIn C (v := 14) eX10_readingOf_1 c5 59 60 ⟨by decide, rfl, by decide⟩ ?_
    refine r_aload_n C eX10_readingOf_60 1 rfl rfl ?_
    refine r_aload_n C eX10_readingOf_61 0 rfl rfl ?_
    refine r_get (v := .ref (a0 (o0 + 18))) C eX10_readingOf_62 FX10_26 0 rfl rfl ?_
    refine r_bipush C (v := (-100)) eX10_readingOf_65 (by decide) ?_
    refine r_V_i (ws' := w_AL (z_g x) a0 o0 v0 ++ w_Sh (z_g x) a1 o1 v1) C (c_Qu_arm (z_l x) (z_g x) a0 (o0 + 18) (gAL_quay v0) (-100) _ rfl) eX10_readingOf_67 MX10_328 ⟨0, 4, _, _, rfl, rfl, rfl⟩ [18, 19, 20] rfl rfl rfl rfl rfl rfl rfl rfl rfl ?_
    refine r_V_i (ws' := w_AL (z_g x) a0 o0 v0 ++ w_Sh (z_g x) a1 o1 v1) C (c_Sh_wayOff (z_l x) (z_g x) a1 o1 v1 (f_Qu_arm (gAL_quay v0) (-100)) _ rfl) eX10_readingOf_70 MX10_331 ⟨0, 7, _, _, rfl, rfl, rfl⟩ [73, 74, 75, 76, 77, 78] rfl rfl rfl rfl rfl rfl rfl rfl rfl ?_
    refine r_i2l C eX10_readingOf_73 ?_
    obtain rfl := Option.some.inj (show some ((f_Sh_wayOff v1 (f_Qu_arm (gAL_quay v0) (-100))).toInt64 : Int64) = some _ from hf)
    exact hret _ _ _ eX10_readingOf_74
  rw [if_neg c5] at hf
  by_cases c6 : p1 = 15
  · rw [if_pos c6] at hf
    refine r_tabIn C (v := 15) eX10_readingOf_1 c6 74 75 ⟨by decide, rfl, by decide⟩ ?_
    refine r_aload_n C eX10_readingOf_75 1 rfl rfl ?_
    refine r_aload_n C eX10_readingOf_76 0 rfl rfl ?_
    refine r_get (v := .ref (a0 (o0 + 18))) C eX10_readingOf_77 FX10_26 0 rfl rfl ?_
    refine r_V_z (ws' := w_AL (z_g x) a0 o0 v0 ++ w_Sh (z_g x) a1 o1 v1) C (c_Sh_isSafe (z_l x) (z_g x) a1 o1 v1 a0 (o0 + 18) (gAL_quay v0)  _ rfl) eX10_readingOf_80 MX10_334 ⟨0, 7, _, _, rfl, rfl, rfl⟩ [73, 74, 75, 76, 77, 78, 18, 19, 20] rfl rfl rfl rfl rfl rfl rfl rfl rfl (fun zb9 => ?_)
    refine r_if_eq C eX10_readingOf_83 (fun c10 => ?_) (fun c10 => ?_)
    · rw [if_pos c10] at hf
      refine r_lconst C (v := 0) eX10_readingOf_90 (by decide) ?_
      obtain rfl := Option.some.inj (show some (0 : Int64) = some _ from hf)
      exact hret _ _ _ eX10_readingOf_91
    · rw [if_neg c10] at hf
      refine r_lconst C (v := 1) eX10_readingOf_86 (by decide) ?_
      refine r_goto C eX10_readingOf_87 ?_
      obtain rfl := Option.some.inj (show some (1 : Int64) = some _ from hf)
      exact hret _ _ _ eX10_readingOf_91
  rw [if_neg c6] at hf
  refine r_tabOut C eX10_readingOf_1 (fun i h1 h2 => by rcases (show i = 10 ∨ i = 11 ∨ i = 12 ∨ i = 13 ∨ i = 14 ∨ i = 15 by omega) with rfl | rfl | rfl | rfl | rfl | rfl <;> assumption) 92 (by decide) ?_
  refine r_aload_n C eX10_readingOf_92 1 rfl rfl ?_
  refine r_iload_n C eX10_readingOf_93 2 rfl rfl ?_
  obtain ⟨r11, hr11, hf⟩ := zbind hf
  refine r_V_i (ws' := w_AL (z_g x) a0 o0 v0 ++ w_Sh (z_g x) a1 o1 v1) C (c_Sh_reading (z_l x) (z_g x) a1 o1 v1 p1 r11 hr11) eX10_readingOf_94 MX10_158 ⟨0, 7, _, _, rfl, rfl, rfl⟩ [73, 74, 75, 76, 77, 78] rfl rfl rfl rfl rfl rfl rfl rfl rfl ?_
  refine r_i2l C eX10_readingOf_97 ?_
  obtain rfl := Option.some.inj (show some (r11.toInt64 : Int64) = some _ from hf)
  exact hret _ _ _ eX10_readingOf_98
theorem eX10_now_0 : zd 1 cX10_now 0 1 (.iload_n 1) := ⟨by decide +kernel, rfl⟩
theorem eX10_now_1 : zdi cX10_now 1 4 10 (.ifCond .lt) := ⟨9, by decide +kernel, rfl, by decide⟩
theorem eX10_now_4 : zd 1 cX10_now 4 5 (.iload_n 1) := ⟨by decide +kernel, rfl⟩
theorem eX10_now_5 : zd 2 cX10_now 5 7 (.bipush 16) := ⟨by decide +kernel, rfl⟩
theorem eX10_now_7 : zdi cX10_now 7 10 14 (.if_icmp .le) := ⟨7, by decide +kernel, rfl, by decide⟩
theorem eX10_now_10 : zd 3 cX10_now 10 13 (.ldc2_w 165) := ⟨by decide +kernel, rfl⟩
theorem eX10_now_13 : zd 1 cX10_now 13 14 (.lreturn) := ⟨by decide +kernel, rfl⟩
theorem eX10_now_14 : zd 1 cX10_now 14 15 (.aload_n 0) := ⟨by decide +kernel, rfl⟩
theorem eX10_now_15 : zd 1 cX10_now 15 16 (.aload_n 0) := ⟨by decide +kernel, rfl⟩
theorem eX10_now_16 : zd 3 cX10_now 16 19 (.getfield 47) := ⟨by decide +kernel, rfl⟩
theorem eX10_now_19 : zd 1 cX10_now 19 20 (.iload_n 1) := ⟨by decide +kernel, rfl⟩
theorem eX10_now_20 : zd 3 cX10_now 20 23 (.invokevirtual 167) := ⟨by decide +kernel, rfl⟩
theorem eX10_now_23 : zd 1 cX10_now 23 24 (.lreturn) := ⟨by decide +kernel, rfl⟩
theorem MX10_167 : zlV RX10 167 yX10_readingOf cX10_readingOf 3 ((Option.some FieldType.long)) 2 := ⟨q683, q685, qs9, q1, q686, by decide, by decide, by decide +kernel⟩
noncomputable def f_AL_now (v0 : tAL) (p1 : Int32) : Option (Int64) := (if p1 < 0 then (some (-1000000002)) else (if p1 ≤ 16 then (Option.bind (f_AL_readingOf v0 (gAL_ship v0) p1) (fun (r3 : Int64) => (some r3))) else (some (-1000000002))))
abbrev rm_AL_now : Room := { frames := 5, cells := 0, slots := 0, locals := 107 }
set_option maxHeartbeats 4000000 in
set_option maxRecDepth 100000 in
theorem c_AL_now (l : Launch) (g : zGl) (a0 : Nat → Nat) (o0 : Nat) (v0 : tAL) (p1 : Int32) (out : Int64) (hf : f_AL_now v0 p1 = some out) : zMl l yX10_now cX10_now 2 rm_AL_now g [.ref (a0 o0), .int p1] (w_AL g a0 o0 v0) out (w_AL g a0 o0 v0) := by
  refine zMl_of (lv := [(0, .ref (a0 o0)), (1, .int p1)]) (by decide) (Nat.le_of_ble_eq_true rfl) rfl (fun x hl hg C hret => ?_)
  subst hl; subst hg
  rw [f_AL_now] at hf
  refine r_iload_n C eX10_now_0 1 rfl rfl ?_
  refine r_if_lt C eX10_now_1 (fun c1 => ?_) (fun c1 => ?_)
  · rw [if_pos c1] at hf
    refine r_ldc2 C (v := (-1000000002)) eX10_now_10 q682 ?_
    obtain rfl := Option.some.inj (show some ((-1000000002) : Int64) = some _ from hf)
    exact hret _ _ _ eX10_now_13
  · rw [if_neg c1] at hf
    refine r_iload_n C eX10_now_4 1 rfl rfl ?_
    refine r_bipush C (v := 16) eX10_now_5 (by decide) ?_
    refine r_icmp_le C eX10_now_7 (fun c2 => ?_) (fun c2 => ?_)
    · rw [if_pos c2] at hf
      refine r_aload_n C eX10_now_14 0 rfl rfl ?_
      refine r_aload_n C eX10_now_15 0 rfl rfl ?_
      refine r_get (v := .ref (a0 (o0 + 27))) C eX10_now_16 FX10_47 0 rfl rfl ?_
      refine r_iload_n C eX10_now_19 1 rfl rfl ?_
      obtain ⟨r3, hr3, hf⟩ := zbind hf
      refine r_V_l (ws' := w_AL (z_g x) a0 o0 v0) C (c_AL_readingOf (z_l x) (z_g x) a0 o0 v0 a0 (o0 + 27) (gAL_ship v0) p1 r3 hr3) eX10_now_20 MX10_167 ⟨0, 10, _, _, rfl, rfl, rfl⟩ [0, 1, 2, 3, 4, 5, 6, 7, 8, 9, 10, 11, 12, 13, 14, 15, 16, 17, 18, 19, 20, 21, 22, 23, 24, 25, 26, 27, 28, 29, 30, 31, 32, 33, 34, 35, 36, 37, 38, 39, 40, 41, 42, 43, 44, 45, 46, 47, 48, 49, 50, 51, 52, 53, 54, 55, 56, 57, 58, 59, 60, 61, 62, 63, 64, 65, 66, 67, 68, 69, 70, 71, 72, 27, 28, 29, 30, 31, 32] rfl rfl rfl rfl rfl rfl rfl rfl rfl ?_
      obtain rfl := Option.some.inj (show some (r3 : Int64) = some _ from hf)
      exact hret _ _ _ eX10_now_23
    · rw [if_neg c2] at hf
      refine r_ldc2 C (v := (-1000000002)) eX10_now_10 q682 ?_
      obtain rfl := Option.some.inj (show some ((-1000000002) : Int64) = some _ from hf)
      exact hret _ _ _ eX10_now_13
