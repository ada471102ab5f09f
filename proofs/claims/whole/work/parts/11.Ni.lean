theorem eX2_hourOf_0 : zd 1 cX2_hourOf 0 1 (.iload_n 1) := ⟨by decide +kernel, rfl⟩
theorem eX2_hourOf_1 : zdi cX2_hourOf 1 4 27 (.ifCond .lt) := ⟨26, by decide +kernel, rfl, by decide⟩
theorem eX2_hourOf_4 : zd 1 cX2_hourOf 4 5 (.iload_n 1) := ⟨by decide +kernel, rfl⟩
theorem eX2_hourOf_5 : zd 1 cX2_hourOf 5 6 (.aload_n 0) := ⟨by decide +kernel, rfl⟩
theorem eX2_hourOf_6 : zd 3 cX2_hourOf 6 9 (.getfield 19) := ⟨by decide +kernel, rfl⟩
theorem eX2_hourOf_9 : zdi cX2_hourOf 9 12 27 (.if_icmp .ge) := ⟨18, by decide +kernel, rfl, by decide⟩
theorem eX2_hourOf_12 : zd 1 cX2_hourOf 12 13 (.iload_n 1) := ⟨by decide +kernel, rfl⟩
theorem eX2_hourOf_13 : zd 2 cX2_hourOf 13 15 (.bipush 24) := ⟨by decide +kernel, rfl⟩
theorem eX2_hourOf_15 : zdi cX2_hourOf 15 18 27 (.if_icmp .ge) := ⟨12, by decide +kernel, rfl, by decide⟩
theorem eX2_hourOf_18 : zd 1 cX2_hourOf 18 19 (.aload_n 0) := ⟨by decide +kernel, rfl⟩
theorem eX2_hourOf_19 : zd 3 cX2_hourOf 19 22 (.getfield 11) := ⟨by decide +kernel, rfl⟩
theorem eX2_hourOf_22 : zd 1 cX2_hourOf 22 23 (.iload_n 1) := ⟨by decide +kernel, rfl⟩
theorem eX2_hourOf_23 : zd 1 cX2_hourOf 23 24 (.iaload) := ⟨by decide +kernel, rfl⟩
theorem eX2_hourOf_24 : zdi cX2_hourOf 24 27 28 (.goto) := ⟨4, by decide +kernel, rfl, by decide⟩
theorem eX2_hourOf_27 : zd 1 cX2_hourOf 27 28 (.iconst (-1)) := ⟨by decide +kernel, rfl⟩
theorem eX2_hourOf_28 : zd 1 cX2_hourOf 28 29 (.ireturn) := ⟨by decide +kernel, rfl⟩
theorem FX2_11 : zlF RX2 11 2 1 := ⟨(RX2, TX2, 2), rfl, by decide, q327, zin2⟩
theorem FX2_19 : zlF RX2 19 2 0 := ⟨(RX2, TX2, 2), rfl, by decide, q325, zin2⟩
noncomputable def f_Ni_hourOf (v0 : tNi) (p1 : Int32) : Option (Int32) := (if p1 < 0 then (some (-1)) else (if ((gNi_ints v0) 0) ≤ p1 then (some (-1)) else (if 24 ≤ p1 then (some (-1)) else (if inb p1 24 = true then (some ((gNi_hours v0) (ix p1))) else none))))
abbrev rm_Ni_hourOf : Room := { frames := 0, cells := 0, slots := 0, locals := 0 }
set_option maxHeartbeats 4000000 in
set_option maxRecDepth 100000 in
theorem c_Ni_hourOf (l : Launch) (g : zGl) (a0 : Nat → Nat) (o0 : Nat) (v0 : tNi) (p1 : Int32) (out : Int32) (hf : f_Ni_hourOf v0 p1 = some out) : zMi l yX2_hourOf cX2_hourOf 2 rm_Ni_hourOf g [.ref (a0 o0), .int p1] (W_Ni g a0 o0 (gNi_ints v0) (gNi_hours v0)) out (W_Ni g a0 o0 (gNi_ints v0) (gNi_hours v0)) := by
  refine zMi_of (lv := [(0, .ref (a0 o0)), (1, .int p1)]) (by decide) (Nat.le_of_ble_eq_true rfl) rfl (fun x hl hg C hret => ?_)
  subst hl; subst hg
  rw [f_Ni_hourOf] at hf
  refine r_iload_n C eX2_hourOf_0 1 rfl rfl ?_
  refine r_if_lt C eX2_hourOf_1 (fun c1 => ?_) (fun c1 => ?_)
  · rw [if_pos c1] at hf
    refine r_iconst C (v := (-1)) eX2_hourOf_27 (by decide) ?_
    obtain rfl := Option.some.inj (show some ((-1) : Int32) = some _ from hf)
    exact hret _ _ _ eX2_hourOf_28
  · rw [if_neg c1] at hf
    refine r_iload_n C eX2_hourOf_4 1 rfl rfl ?_
    refine r_aload_n C eX2_hourOf_5 0 rfl rfl ?_
    refine r_get (v := .int ((gNi_ints v0) 0)) C eX2_hourOf_6 FX2_19 0 rfl rfl ?_
    refine r_icmp_ge C eX2_hourOf_9 (fun c2 => ?_) (fun c2 => ?_)
    · rw [if_pos c2] at hf
      refine r_iconst C (v := (-1)) eX2_hourOf_27 (by decide) ?_
      obtain rfl := Option.some.inj (show some ((-1) : Int32) = some _ from hf)
      exact hret _ _ _ eX2_hourOf_28
    · rw [if_neg c2] at hf
      refine r_iload_n C eX2_hourOf_12 1 rfl rfl ?_
      refine r_bipush C (v := 24) eX2_hourOf_13 (by decide) ?_
      refine r_icmp_ge C eX2_hourOf_15 (fun c3 => ?_) (fun c3 => ?_)
      · rw [if_pos c3] at hf
        refine r_iconst C (v := (-1)) eX2_hourOf_27 (by decide) ?_
        obtain rfl := Option.some.inj (show some ((-1) : Int32) = some _ from hf)
        exact hret _ _ _ eX2_hourOf_28
      · rw [if_neg c3] at hf
        refine r_aload_n C eX2_hourOf_18 0 rfl rfl ?_
        refine r_get (v := .ref (a0 (o0 + 1))) C eX2_hourOf_19 FX2_11 0 rfl rfl ?_
        refine r_iload_n C eX2_hourOf_22 1 rfl rfl ?_
        obtain ⟨hb4, hf⟩ := zchk hf
        refine r_iald C eX2_hourOf_23 1 rfl (inb_in hb4) ((gNi_hours v0) (ix p1)) rfl ?_
        refine r_goto C eX2_hourOf_24 ?_
        obtain rfl := Option.some.inj (show some (((gNi_hours v0) (ix p1)) : Int32) = some _ from hf)
        exact hret _ _ _ eX2_hourOf_28
theorem eX2_hoursAsSet_0 : zd 1 cX2_hoursAsSet 0 1 (.iconst 0) := ⟨by decide +kernel, rfl⟩
theorem eX2_hoursAsSet_1 : zd 1 cX2_hoursAsSet 1 2 (.istore_n 1) := ⟨by decide +kernel, rfl⟩
theorem eX2_hoursAsSet_2 : zd 1 cX2_hoursAsSet 2 3 (.iconst 0) := ⟨by decide +kernel, rfl⟩
theorem eX2_hoursAsSet_3 : zd 1 cX2_hoursAsSet 3 4 (.istore_n 2) := ⟨by decide +kernel, rfl⟩
theorem eX2_hoursAsSet_4 : zd 1 cX2_hoursAsSet 4 5 (.iload_n 2) := ⟨by decide +kernel, rfl⟩
theorem eX2_hoursAsSet_5 : zd 1 cX2_hoursAsSet 5 6 (.aload_n 0) := ⟨by decide +kernel, rfl⟩
theorem eX2_hoursAsSet_6 : zd 3 cX2_hoursAsSet 6 9 (.getfield 19) := ⟨by decide +kernel, rfl⟩
theorem eX2_hoursAsSet_9 : zdi cX2_hoursAsSet 9 12 35 (.if_icmp .ge) := ⟨26, by decide +kernel, rfl, by decide⟩
theorem eX2_hoursAsSet_12 : zd 1 cX2_hoursAsSet 12 13 (.iload_n 2) := ⟨by decide +kernel, rfl⟩
theorem eX2_hoursAsSet_13 : zd 2 cX2_hoursAsSet 13 15 (.bipush 24) := ⟨by decide +kernel, rfl⟩
theorem eX2_hoursAsSet_15 : zdi cX2_hoursAsSet 15 18 35 (.if_icmp .ge) := ⟨20, by decide +kernel, rfl, by decide⟩
theorem eX2_hoursAsSet_18 : zd 1 cX2_hoursAsSet 18 19 (.iload_n 1) := ⟨by decide +kernel, rfl⟩
theorem eX2_hoursAsSet_19 : zd 1 cX2_hoursAsSet 19 20 (.iconst 1) := ⟨by decide +kernel, rfl⟩
theorem eX2_hoursAsSet_20 : zd 1 cX2_hoursAsSet 20 21 (.aload_n 0) := ⟨by decide +kernel, rfl⟩
theorem eX2_hoursAsSet_21 : zd 3 cX2_hoursAsSet 21 24 (.getfield 11) := ⟨by decide +kernel, rfl⟩
theorem eX2_hoursAsSet_24 : zd 1 cX2_hoursAsSet 24 25 (.iload_n 2) := ⟨by decide +kernel, rfl⟩
theorem eX2_hoursAsSet_25 : zd 1 cX2_hoursAsSet 25 26 (.iaload) := ⟨by decide +kernel, rfl⟩
theorem eX2_hoursAsSet_26 : zd 1 cX2_hoursAsSet 26 27 (.ishl) := ⟨by decide +kernel, rfl⟩
theorem eX2_hoursAsSet_27 : zd 1 cX2_hoursAsSet 27 28 (.ior) := ⟨by decide +kernel, rfl⟩
theorem eX2_hoursAsSet_28 : zd 1 cX2_hoursAsSet 28 29 (.istore_n 1) := ⟨by decide +kernel, rfl⟩
theorem eX2_hoursAsSet_29 : zd 3 cX2_hoursAsSet 29 32 (.iinc 2 1) := ⟨by decide +kernel, rfl⟩
theorem eX2_hoursAsSet_32 : zdi cX2_hoursAsSet 32 35 4 (.goto) := ⟨(-28), by decide +kernel, rfl, by decide⟩
theorem eX2_hoursAsSet_35 : zd 1 cX2_hoursAsSet 35 36 (.iload_n 1) := ⟨by decide +kernel, rfl⟩
theorem eX2_hoursAsSet_36 : zd 1 cX2_hoursAsSet 36 37 (.ireturn) := ⟨by decide +kernel, rfl⟩
noncomputable def fB_Ni_hoursAsSet_4 (v0 : tNi) (ih : (Int32 × Int32) → Option (Int32 × Int32)) (s1 : Int32 × Int32) : Option (Int32 × Int32) := (if ((gNi_ints v0) 0) ≤ (s1.2) then (some ((s1.1), (s1.2))) else (if 24 ≤ (s1.2) then (some ((s1.1), (s1.2))) else (if inb (s1.2) 24 = true then (zlet ((s1.1) ||| (1 <<< (((gNi_hours v0) (ix (s1.2))) &&& 31))) (fun (z9 : Int32) => (ih (z9, ((s1.2) + 1))))) else none)))
noncomputable def f_Ni_hoursAsSet (v0 : tNi)  : Option (Int32) := (Option.bind (lp (fB_Ni_hoursAsSet_4 v0) LF (0, 0)) (fun (q2 : Int32 × Int32) => (some (q2.1))))
abbrev rm_Ni_hoursAsSet : Room := { frames := 0, cells := 0, slots := 0, locals := 0 }
set_option maxHeartbeats 4000000 in
set_option maxRecDepth 100000 in
theorem c_Ni_hoursAsSet (l : Launch) (g : zGl) (a0 : Nat → Nat) (o0 : Nat) (v0 : tNi)  (out : Int32) (hf : f_Ni_hoursAsSet v0 = some out) : zMi l yX2_hoursAsSet cX2_hoursAsSet 3 rm_Ni_hoursAsSet g [.ref (a0 o0)] (W_Ni g a0 o0 (gNi_ints v0) (gNi_hours v0)) out (W_Ni g a0 o0 (gNi_ints v0) (gNi_hours v0)) := by
  refine zMi_of (lv := [(0, .ref (a0 o0))]) (by decide) (Nat.le_of_ble_eq_true rfl) rfl (fun x hl hg C hret => ?_)
  subst hl; subst hg
  rw [f_Ni_hoursAsSet] at hf
  refine r_iconst C (v := 0) eX2_hoursAsSet_0 (by decide) ?_
  refine r_istore_n C [(1, .int 0), (0, .ref (a0 o0))] eX2_hoursAsSet_1 rfl (by decide) rfl ?_
  refine r_iconst C (v := 0) eX2_hoursAsSet_2 (by decide) ?_
  refine r_istore_n C [(2, .int 0), (1, .int 0), (0, .ref (a0 o0))] eX2_hoursAsSet_3 rfl (by decide) rfl ?_
  obtain ⟨q2, h3, hf⟩ := zbind hf
  have J4 : vV x 3 0 0 (W_Ni (z_g x) a0 o0 (gNi_ints v0) (gNi_hours v0)) 35 [(1, .int (q2.1))] [] := by
    refine r_iload_n C eX2_hoursAsSet_35 0 rfl rfl ?_
    obtain rfl := Option.some.inj (show some ((q2.1) : Int32) = some _ from hf)
    exact hret _ _ _ eX2_hoursAsSet_36
  have L5 : ∀ (nL5 : Nat) (s1 : Int32 × Int32), lp (fB_Ni_hoursAsSet_4 v0) nL5 s1 = some q2 → vV x 3 0 0 (W_Ni (z_g x) a0 o0 (gNi_ints v0) (gNi_hours v0)) 4 [(0, .ref (a0 o0)), (1, .int (s1.1)), (2, .int (s1.2))] [] := by
    intro nL5
    induction nL5 with
    | zero => intro s1 hq; cases hq
    | succ nL5 ihL5 =>
      intro s1 hbL5
      rw [lp_succ, fB_Ni_hoursAsSet_4] at hbL5
      refine r_iload_n C eX2_hoursAsSet_4 2 rfl rfl ?_
      refine r_aload_n C eX2_hoursAsSet_5 0 rfl rfl ?_
      refine r_get (v := .int ((gNi_ints v0) 0)) C eX2_hoursAsSet_6 FX2_19 0 rfl rfl ?_
      refine r_icmp_ge C eX2_hoursAsSet_9 (fun c6 => ?_) (fun c6 => ?_)
      · rw [if_pos c6] at hbL5
        obtain rfl := Option.some.inj hbL5
        refine r_sub (lv' := [(1, .int (s1.1))]) [1] rfl ?_
        exact J4
      · rw [if_neg c6] at hbL5
        refine r_iload_n C eX2_hoursAsSet_12 2 rfl rfl ?_
        refine r_bipush C (v := 24) eX2_hoursAsSet_13 (by decide) ?_
        refine r_icmp_ge C eX2_hoursAsSet_15 (fun c7 => ?_) (fun c7 => ?_)
        · rw [if_pos c7] at hbL5
          obtain rfl := Option.some.inj hbL5
          refine r_sub (lv' := [(1, .int (s1.1))]) [1] rfl ?_
          exact J4
        · rw [if_neg c7] at hbL5
          refine r_iload_n C eX2_hoursAsSet_18 1 rfl rfl ?_
          refine r_iconst C (v := 1) eX2_hoursAsSet_19 (by decide) ?_
          refine r_aload_n C eX2_hoursAsSet_20 0 rfl rfl ?_
          refine r_get (v := .ref (a0 (o0 + 1))) C eX2_hoursAsSet_21 FX2_11 0 rfl rfl ?_
          refine r_iload_n C eX2_hoursAsSet_24 2 rfl rfl ?_
          obtain ⟨hb8, hbL5⟩ := zchk hbL5
          refine r_iald C eX2_hoursAsSet_25 1 rfl (inb_in hb8) ((gNi_hours v0) (ix (s1.2))) rfl ?_
          refine r_ishl C eX2_hoursAsSet_26 ?_
          refine r_ior C eX2_hoursAsSet_27 ?_
          obtain ⟨z9, hz9, hbL5⟩ := zlet_of hbL5
          refine r_nami hz9 ?_
          refine r_istore_n C [(1, .int z9), (0, .ref (a0 o0)), (2, .int (s1.2))] eX2_hoursAsSet_28 rfl (by decide) rfl ?_
          refine r_iinc C (v := ((s1.2) + 1)) [(2, .int ((s1.2) + 1)), (1, .int z9), (0, .ref (a0 o0))] eX2_hoursAsSet_29 2 rfl rfl (by decide) rfl ?_
          refine r_goto C eX2_hoursAsSet_32 ?_
          refine r_sub (lv' := [(0, .ref (a0 o0)), (1, .int z9), (2, .int ((s1.2) + 1))]) [2, 1, 0] rfl ?_
          have hc := ihL5 (z9, ((s1.2) + 1)) hbL5
          exact hc
  refine r_sub (lv' := [(0, .ref (a0 o0)), (1, .int 0), (2, .int 0)]) [2, 1, 0] rfl ?_
  have hc := L5 LF (0, 0) h3
  exact hc
theorem eX2_isDeck_0 : zd 1 cX2_isDeck 0 1 (.iload_n 0) := ⟨by decide +kernel, rfl⟩
theorem eX2_isDeck_1 : zdi cX2_isDeck 1 4 15 (.ifCond .lt) := ⟨14, by decide +kernel, rfl, by decide⟩
theorem eX2_isDeck_4 : zd 1 cX2_isDeck 4 5 (.iload_n 0) := ⟨by decide +kernel, rfl⟩
theorem eX2_isDeck_5 : zd 3 cX2_isDeck 5 8 (.sipush 999) := ⟨by decide +kernel, rfl⟩
theorem eX2_isDeck_8 : zdi cX2_isDeck 8 11 15 (.if_icmp .gt) := ⟨7, by decide +kernel, rfl, by decide⟩
theorem eX2_isDeck_11 : zd 1 cX2_isDeck 11 12 (.iconst 1) := ⟨by decide +kernel, rfl⟩
theorem eX2_isDeck_12 : zdi cX2_isDeck 12 15 16 (.goto) := ⟨4, by decide +kernel, rfl, by decide⟩
theorem eX2_isDeck_15 : zd 1 cX2_isDeck 15 16 (.iconst 0) := ⟨by decide +kernel, rfl⟩
theorem eX2_isDeck_16 : zd 1 cX2_isDeck 16 17 (.ireturn) := ⟨by decide +kernel, rfl⟩
noncomputable def f_Ni_isDeck  (p1 : Int32) : Int32 := (if p1 < 0 then 0 else (if 999 < p1 then 0 else 1))
abbrev rm_Ni_isDeck : Room := { frames := 0, cells := 0, slots := 0, locals := 0 }
set_option maxHeartbeats 4000000 in
set_option maxRecDepth 100000 in
theorem c_Ni_isDeck (l : Launch) (g : zGl)  (p1 : Int32) (out : Int32) (hf : f_Ni_isDeck p1 = out) : zMz l yX2_isDeck cX2_isDeck 1 rm_Ni_isDeck g [.int p1] ([]) out ([]) := by
  refine zMz_of (lv := [(0, .int p1)]) (by decide) (Nat.le_of_ble_eq_true rfl) rfl (fun x hl hg C hret => ?_)
  subst hl; subst hg
  rw [f_Ni_isDeck] at hf
  refine r_iload_n C eX2_isDeck_0 0 rfl rfl ?_
  refine r_if_lt C eX2_isDeck_1 (fun c1 => ?_) (fun c1 => ?_)
  · rw [if_pos c1] at hf
    refine r_iconst C (v := 0) eX2_isDeck_15 (by decide) ?_
    subst hf
    exact hret _ _ _ eX2_isDeck_16 zB0
  · rw [if_neg c1] at hf
    refine r_iload_n C eX2_isDeck_4 0 rfl rfl ?_
    refine r_sipush C (v := 999) eX2_isDeck_5 (by decide) ?_
    refine r_icmp_gt C eX2_isDeck_8 (fun c2 => ?_) (fun c2 => ?_)
    · rw [if_pos c2] at hf
      refine r_iconst C (v := 0) eX2_isDeck_15 (by decide) ?_
      subst hf
      exact hret _ _ _ eX2_isDeck_16 zB0
    · rw [if_neg c2] at hf
      refine r_iconst C (v := 1) eX2_isDeck_11 (by decide) ?_
      refine r_goto C eX2_isDeck_12 ?_
      subst hf
      exact hret _ _ _ eX2_isDeck_16 zB1
theorem eX2_lengthNeeded_0 : zd 1 cX2_lengthNeeded 0 1 (.iload_n 0) := ⟨by decide +kernel, rfl⟩
theorem eX2_lengthNeeded_1 : zd 1 cX2_lengthNeeded 1 2 (.iload_n 1) := ⟨by decide +kernel, rfl⟩
theorem eX2_lengthNeeded_2 : zd 1 cX2_lengthNeeded 2 3 (.iload_n 2) := ⟨by decide +kernel, rfl⟩
theorem eX2_lengthNeeded_3 : zd 1 cX2_lengthNeeded 3 4 (.iadd) := ⟨by decide +kernel, rfl⟩
theorem eX2_lengthNeeded_4 : zd 3 cX2_lengthNeeded 4 7 (.sipush 300) := ⟨by decide +kernel, rfl⟩
theorem eX2_lengthNeeded_7 : zd 1 cX2_lengthNeeded 7 8 (.isub) := ⟨by decide +kernel, rfl⟩
theorem eX2_lengthNeeded_8 : zd 3 cX2_lengthNeeded 8 11 (.invokestatic 15) := ⟨by decide +kernel, rfl⟩
theorem eX2_lengthNeeded_11 : zd 1 cX2_lengthNeeded 11 12 (.ireturn) := ⟨by decide +kernel, rfl⟩
theorem MX2_15 : zlN RX2 15 yX10_rootOfSquares cX10_rootOfSquares 9 ((Option.some FieldType.int)) 2 := ⟨⟨_, qn967⟩, q734, q1, q735, by decide, by decide, by decide +kernel⟩
noncomputable def f_Ni_lengthNeeded  (p1 : Int32) (p2 : Int32) (p3 : Int32) : Option (Int32) := (Option.bind (f_AL_rootOfSquares p1 ((p2 + p3) - 300)) (fun (r1 : Int32) => (some r1)))
abbrev rm_Ni_lengthNeeded : Room := { frames := 2, cells := 0, slots := 0, locals := 49 }
set_option maxHeartbeats 4000000 in
set_option maxRecDepth 100000 in
theorem c_Ni_lengthNeeded (l : Launch) (g : zGl)  (p1 : Int32) (p2 : Int32) (p3 : Int32) (out : Int32) (hf : f_Ni_lengthNeeded p1 p2 p3 = some out) : zMi l yX2_lengthNeeded cX2_lengthNeeded 3 rm_Ni_lengthNeeded g [.int p1, .int p2, .int p3] ([]) out ([]) := by
  refine zMi_of (lv := [(0, .int p1), (1, .int p2), (2, .int p3)]) (by decide) (Nat.le_of_ble_eq_true rfl) rfl (fun x hl hg C hret => ?_)
  subst hl; subst hg
  rw [f_Ni_lengthNeeded] at hf
  refine r_iload_n C eX2_lengthNeeded_0 0 rfl rfl ?_
  refine r_iload_n C eX2_lengthNeeded_1 1 rfl rfl ?_
  refine r_iload_n C eX2_lengthNeeded_2 2 rfl rfl ?_
  refine r_iadd C eX2_lengthNeeded_3 ?_
  refine r_sipush C (v := 300) eX2_lengthNeeded_4 (by decide) ?_
  refine r_isub C eX2_lengthNeeded_7 ?_
  obtain ⟨r1, hr1, hf⟩ := zbind hf
  refine r_N_i (ws' := []) C (c_AL_rootOfSquares (z_l x) (z_g x)  p1 ((p2 + p3) - 300) r1 hr1) eX2_lengthNeeded_8 MX2_15 [] rfl rfl rfl rfl [] rfl trivial 0 rfl rfl rfl rfl rfl rfl ?_
  obtain rfl := Option.some.inj (show some (r1 : Int32) = some _ from hf)
  exact hret _ _ _ eX2_lengthNeeded_11
theorem eX2_tend_0 : zd 1 cX2_tend 0 1 (.aload_n 0) := ⟨by decide +kernel, rfl⟩
theorem eX2_tend_1 : zd 1 cX2_tend 1 2 (.iconst 0) := ⟨by decide +kernel, rfl⟩
theorem eX2_tend_2 : zd 3 cX2_tend 2 5 (.putfield 19) := ⟨by decide +kernel, rfl⟩
theorem eX2_tend_5 : zd 1 cX2_tend 5 6 (.iconst 0) := ⟨by decide +kernel, rfl⟩
theorem eX2_tend_6 : zd 2 cX2_tend 6 8 (.istore 4) := ⟨by decide +kernel, rfl⟩
theorem eX2_tend_8 : zd 1 cX2_tend 8 9 (.iconst 0) := ⟨by decide +kernel, rfl⟩
theorem eX2_tend_9 : zd 2 cX2_tend 9 11 (.istore 5) := ⟨by decide +kernel, rfl⟩
theorem eX2_tend_11 : zd 1 cX2_tend 11 12 (.iconst 0) := ⟨by decide +kernel, rfl⟩
theorem eX2_tend_12 : zd 2 cX2_tend 12 14 (.istore 6) := ⟨by decide +kernel, rfl⟩
theorem eX2_tend_14 : zd 2 cX2_tend 14 16 (.iload 6) := ⟨by decide +kernel, rfl⟩
theorem eX2_tend_16 : zd 1 cX2_tend 16 17 (.aload_n 1) := ⟨by decide +kernel, rfl⟩
theorem eX2_tend_17 : zd 3 cX2_tend 17 20 (.getfield 23) := ⟨by decide +kernel, rfl⟩
theorem eX2_tend_20 : zdi cX2_tend 20 23 113 (.if_icmp .ge) := ⟨93, by decide +kernel, rfl, by decide⟩
theorem eX2_tend_23 : zd 2 cX2_tend 23 25 (.iload 6) := ⟨by decide +kernel, rfl⟩
theorem eX2_tend_25 : zd 2 cX2_tend 25 27 (.bipush 24) := ⟨by decide +kernel, rfl⟩
theorem eX2_tend_27 : zdi cX2_tend 27 30 113 (.if_icmp .ge) := ⟨86, by decide +kernel, rfl, by decide⟩
theorem eX2_tend_30 : zd 1 cX2_tend 30 31 (.iload_n 2) := ⟨by decide +kernel, rfl⟩
theorem eX2_tend_31 : zd 1 cX2_tend 31 32 (.iload_n 3) := ⟨by decide +kernel, rfl⟩
theorem eX2_tend_32 : zd 1 cX2_tend 32 33 (.aload_n 1) := ⟨by decide +kernel, rfl⟩
theorem eX2_tend_33 : zd 2 cX2_tend 33 35 (.iload 6) := ⟨by decide +kernel, rfl⟩
theorem eX2_tend_35 : zd 3 cX2_tend 35 38 (.invokevirtual 26) := ⟨by decide +kernel, rfl⟩
theorem eX2_tend_38 : zd 3 cX2_tend 38 41 (.invokestatic 30) := ⟨by decide +kernel, rfl⟩
theorem eX2_tend_41 : zd 2 cX2_tend 41 43 (.istore 7) := ⟨by decide +kernel, rfl⟩
theorem eX2_tend_43 : zd 2 cX2_tend 43 45 (.iload 4) := ⟨by decide +kernel, rfl⟩
theorem eX2_tend_45 : zd 2 cX2_tend 45 47 (.iload 7) := ⟨by decide +kernel, rfl⟩
theorem eX2_tend_47 : zd 3 cX2_tend 47 50 (.invokestatic 34) := ⟨by decide +kernel, rfl⟩
theorem eX2_tend_50 : zd 2 cX2_tend 50 52 (.istore 4) := ⟨by decide +kernel, rfl⟩
theorem eX2_tend_52 : zd 2 cX2_tend 52 54 (.iload 5) := ⟨by decide +kernel, rfl⟩
theorem eX2_tend_54 : zd 2 cX2_tend 54 56 (.iload 7) := ⟨by decide +kernel, rfl⟩
theorem eX2_tend_56 : zd 3 cX2_tend 56 59 (.invokestatic 39) := ⟨by decide +kernel, rfl⟩
theorem eX2_tend_59 : zd 2 cX2_tend 59 61 (.istore 5) := ⟨by decide +kernel, rfl⟩
theorem eX2_tend_61 : zd 1 cX2_tend 61 62 (.aload_n 0) := ⟨by decide +kernel, rfl⟩
theorem eX2_tend_62 : zd 3 cX2_tend 62 65 (.getfield 19) := ⟨by decide +kernel, rfl⟩
theorem eX2_tend_65 : zdi cX2_tend 65 68 78 (.ifCond .eq) := ⟨13, by decide +kernel, rfl, by decide⟩
theorem eX2_tend_68 : zd 2 cX2_tend 68 70 (.iload 5) := ⟨by decide +kernel, rfl⟩
theorem eX2_tend_70 : zd 2 cX2_tend 70 72 (.iload 4) := ⟨by decide +kernel, rfl⟩
theorem eX2_tend_72 : zd 1 cX2_tend 72 73 (.isub) := ⟨by decide +kernel, rfl⟩
theorem eX2_tend_73 : zd 2 cX2_tend 73 75 (.bipush 100) := ⟨by decide +kernel, rfl⟩
theorem eX2_tend_75 : zdi cX2_tend 75 78 107 (.if_icmp .le) := ⟨32, by decide +kernel, rfl, by decide⟩
theorem eX2_tend_78 : zd 2 cX2_tend 78 80 (.iload 7) := ⟨by decide +kernel, rfl⟩
theorem eX2_tend_80 : zd 2 cX2_tend 80 82 (.istore 4) := ⟨by decide +kernel, rfl⟩
theorem eX2_tend_82 : zd 2 cX2_tend 82 84 (.iload 7) := ⟨by decide +kernel, rfl⟩
theorem eX2_tend_84 : zd 2 cX2_tend 84 86 (.istore 5) := ⟨by decide +kernel, rfl⟩
theorem eX2_tend_86 : zd 1 cX2_tend 86 87 (.aload_n 0) := ⟨by decide +kernel, rfl⟩
theorem eX2_tend_87 : zd 3 cX2_tend 87 90 (.getfield 11) := ⟨by decide +kernel, rfl⟩
theorem eX2_tend_90 : zd 1 cX2_tend 90 91 (.aload_n 0) := ⟨by decide +kernel, rfl⟩
theorem eX2_tend_91 : zd 3 cX2_tend 91 94 (.getfield 19) := ⟨by decide +kernel, rfl⟩
theorem eX2_tend_94 : zd 2 cX2_tend 94 96 (.iload 6) := ⟨by decide +kernel, rfl⟩
theorem eX2_tend_96 : zd 1 cX2_tend 96 97 (.iastore) := ⟨by decide +kernel, rfl⟩
theorem eX2_tend_97 : zd 1 cX2_tend 97 98 (.aload_n 0) := ⟨by decide +kernel, rfl⟩
theorem eX2_tend_98 : zd 1 cX2_tend 98 99 (.dup) := ⟨by decide +kernel, rfl⟩
theorem eX2_tend_99 : zd 3 cX2_tend 99 102 (.getfield 19) := ⟨by decide +kernel, rfl⟩
theorem eX2_tend_102 : zd 1 cX2_tend 102 103 (.iconst 1) := ⟨by decide +kernel, rfl⟩
theorem eX2_tend_103 : zd 1 cX2_tend 103 104 (.iadd) := ⟨by decide +kernel, rfl⟩
theorem eX2_tend_104 : zd 3 cX2_tend 104 107 (.putfield 19) := ⟨by decide +kernel, rfl⟩
theorem eX2_tend_107 : zd 3 cX2_tend 107 110 (.iinc 6 1) := ⟨by decide +kernel, rfl⟩
theorem eX2_tend_110 : zdi cX2_tend 110 113 14 (.goto) := ⟨(-96), by decide +kernel, rfl, by decide⟩
theorem eX2_tend_113 : zd 1 cX2_tend 113 114 (.return_) := ⟨by decide +kernel, rfl⟩
theorem FX2_23 : zlF RX2 23 9 0 := ⟨(RX9, TX9, 2), rfl, by decide, q151, zin9⟩
theorem PX2_19 : zlP RX2 19 2 0 .int := ⟨(RX2, TX2, 2), tyX2, rfl, by decide, q325, zin2, tyX2_ok, nmX2, rfl, by decide +kernel⟩
theorem MX2_26 : zlV RX2 26 yX9_heightAt cX9_heightAt 2 ((Option.some FieldType.int)) 1 := ⟨q976, q960, q961, q6, q962, by decide, by decide, by decide +kernel⟩
theorem MX2_30 : zlS RX2 30 yX2_lengthNeeded cX2_lengthNeeded 3 ((Option.some FieldType.int)) 3 := ⟨q977, q965, q10, q966, by decide, by decide, by decide +kernel⟩
theorem MX2_34 : Cond.methodLink RX2 34 Lib.Math.min.name ∈ TB ∧ Cond.static Lib.Math.min.name ∈ TB ∧ Cond.initialized "java/lang/Math" ∈ TB ∧ Cond.code Lib.Math.min.name Lib.Math.min.code 2 (some .int) ∈ TB := ⟨q978, q754, q18, q755⟩
theorem MX2_39 : Cond.methodLink RX2 39 Lib.Math.max.name ∈ TB ∧ Cond.static Lib.Math.max.name ∈ TB ∧ Cond.initialized "java/lang/Math" ∈ TB ∧ Cond.code Lib.Math.max.name Lib.Math.max.code 2 (some .int) ∈ TB := ⟨q979, q701, q18, q702⟩
noncomputable def fB_Ni_tend_14 (v1 : tTi) (p1 : Int32) (p2 : Int32) (ih : (Int32 × Int32 × Int32 × (Nat → Int32) × (Nat → Int32)) → Option (Int32 × Int32 × Int32 × (Nat → Int32) × (Nat → Int32))) (s1 : Int32 × Int32 × Int32 × (Nat → Int32) × (Nat → Int32)) : Option (Int32 × Int32 × Int32 × (Nat → Int32) × (Nat → Int32)) := (if ((gTi_ints v1) 0) ≤ (s1.2.2.1) then (some ((s1.1), (s1.2.1), (s1.2.2.1), (s1.2.2.2.1), (s1.2.2.2.2))) else (if 24 ≤ (s1.2.2.1) then (some ((s1.1), (s1.2.1), (s1.2.2.1), (s1.2.2.2.1), (s1.2.2.2.2))) else (Option.bind (f_Ti_heightAt v1 (s1.2.2.1)) (fun (r8 : Int32) => (Option.bind (f_Ni_lengthNeeded p1 p2 r8) (fun (r9 : Int32) => (zlet (zmin (s1.1) r9) (fun (z10 : Int32) => (zlet (zmax (s1.2.1) r9) (fun (z11 : Int32) => (if ((s1.2.2.2.1) 0) = 0 then (if inb ((s1.2.2.2.1) 0) 24 = true then (zlet (((s1.2.2.2.1) 0) + 1) (fun (z14 : Int32) => (ih (r9, r9, ((s1.2.2.1) + 1), (upd (s1.2.2.2.1) 0 z14), (upd (s1.2.2.2.2) (ix ((s1.2.2.2.1) 0)) (s1.2.2.1)))))) else none) else (if (z11 - z10) ≤ 100 then (ih (z10, z11, ((s1.2.2.1) + 1), (s1.2.2.2.1), (s1.2.2.2.2))) else (if inb ((s1.2.2.2.1) 0) 24 = true then (zlet (((s1.2.2.2.1) 0) + 1) (fun (z17 : Int32) => (ih (r9, r9, ((s1.2.2.1) + 1), (upd (s1.2.2.2.1) 0 z17), (upd (s1.2.2.2.2) (ix ((s1.2.2.2.1) 0)) (s1.2.2.1)))))) else none)))))))))))))
noncomputable def f_Ni_tend (v0 : tNi) (v1 : tTi) (p1 : Int32) (p2 : Int32) : Option ((Nat → Int32) × (Nat → Int32)) := (Option.bind (lp (fB_Ni_tend_14 v1 p1 p2) LF (0, 0, 0, (upd (gNi_ints v0) 0 0), (gNi_hours v0))) (fun (q2 : Int32 × Int32 × Int32 × (Nat → Int32) × (Nat → Int32)) => (some ((q2.2.2.2.1), (q2.2.2.2.2)))))
abbrev rm_Ni_tend : Room := { frames := 3, cells := 0, slots := 0, locals := 71 }
set_option maxHeartbeats 4000000 in
set_option maxRecDepth 100000 in
theorem c_Ni_tend (l : Launch) (g : zGl) (a0 : Nat → Nat) (o0 : Nat) (v0 : tNi) (a1 : Nat → Nat) (o1 : Nat) (v1 : tTi) (p1 : Int32) (p2 : Int32) (out : (Nat → Int32) × (Nat → Int32)) (hf : f_Ni_tend v0 v1 p1 p2 = some out) : zMv l yX2_tend cX2_tend 8 rm_Ni_tend g [.ref (a0 o0), .ref (a1 o1), .int p1, .int p2] (W_Ni g a0 o0 (gNi_ints v0) (gNi_hours v0) ++ W_Ti g a1 o1 (gTi_ints v1) (gTi_heights v1))  (W_Ni g a0 o0 (out.1) (out.2) ++ W_Ti g a1 o1 (gTi_ints v1) (gTi_heights v1)) := by
  refine zMv_of (lv := [(0, .ref (a0 o0)), (1, .ref (a1 o1)), (2, .int p1), (3, .int p2)]) (by decide) (Nat.le_of_ble_eq_true rfl) rfl (fun x hl hg C hret => ?_)
  subst hl; subst hg
  rw [f_Ni_tend] at hf
  refine r_aload_n C eX2_tend_0 0 rfl rfl ?_
  refine r_iconst C (v := 0) eX2_tend_1 (by decide) ?_
  refine r_put (ws' := W_Ni (z_g x) a0 o0 (upd (gNi_ints v0) 0 0) (gNi_hours v0) ++ W_Ti (z_g x) a1 o1 (gTi_ints v1) (gTi_heights v1)) C eX2_tend_2 PX2_19 0 rfl rfl rfl (Nat.le_of_ble_eq_true rfl) rfl ?_
  refine r_iconst C (v := 0) eX2_tend_5 (by decide) ?_
  refine r_istore C [(4, .int 0), (0, .ref (a0 o0)), (1, .ref (a1 o1)), (2, .int p1), (3, .int p2)] eX2_tend_6 (by decide) rfl ?_
  refine r_iconst C (v := 0) eX2_tend_8 (by decide) ?_
  refine r_istore C [(5, .int 0), (4, .int 0), (0, .ref (a0 o0)), (1, .ref (a1 o1)), (2, .int p1), (3, .int p2)] eX2_tend_9 (by decide) rfl ?_
  refine r_iconst C (v := 0) eX2_tend_11 (by decide) ?_
  refine r_istore C [(6, .int 0), (5, .int 0), (4, .int 0), (0, .ref (a0 o0)), (1, .ref (a1 o1)), (2, .int p1), (3, .int p2)] eX2_tend_12 (by decide) rfl ?_
  obtain ⟨q2, h3, hf⟩ := zbind hf
  have J4 : vV x 8 0 0 (W_Ni (z_g x) a0 o0 (q2.2.2.2.1) (q2.2.2.2.2) ++ W_Ti (z_g x) a1 o1 (gTi_ints v1) (gTi_heights v1)) 113 [] [] := by
    obtain rfl := Option.some.inj (show some (((q2.2.2.2.1), (q2.2.2.2.2)) : (Nat → Int32) × (Nat → Int32)) = some _ from hf)
    exact hret _ _ _ eX2_tend_113
  have L5 : ∀ (nL5 : Nat) (s1 : Int32 × Int32 × Int32 × (Nat → Int32) × (Nat → Int32)), lp (fB_Ni_tend_14 v1 p1 p2) nL5 s1 = some q2 → vV x 8 0 0 (W_Ni (z_g x) a0 o0 (s1.2.2.2.1) (s1.2.2.2.2) ++ W_Ti (z_g x) a1 o1 (gTi_ints v1) (gTi_heights v1)) 14 [(0, .ref (a0 o0)), (1, .ref (a1 o1)), (2, .int p1), (3, .int p2), (4, .int (s1.1)), (5, .int (s1.2.1)), (6, .int (s1.2.2.1))] [] := by
    intro nL5
    induction nL5 with
    | zero => intro s1 hq; cases hq
    | succ nL5 ihL5 =>
      intro s1 hbL5
      rw [lp_succ, fB_Ni_tend_14] at hbL5
      refine r_iload C eX2_tend_14 6 rfl ?_
      refine r_aload_n C eX2_tend_16 1 rfl rfl ?_
      refine r_get (v := .int ((gTi_ints v1) 0)) C eX2_tend_17 FX2_23 2 rfl rfl ?_
      refine r_icmp_ge C eX2_tend_20 (fun c6 => ?_) (fun c6 => ?_)
      · rw [if_pos c6] at hbL5
        obtain rfl := Option.some.inj hbL5
        refine r_sub (lv' := []) [] rfl ?_
        exact J4
      · rw [if_neg c6] at hbL5
        refine r_iload C eX2_tend_23 6 rfl ?_
        refine r_bipush C (v := 24) eX2_tend_25 (by decide) ?_
        refine r_icmp_ge C eX2_tend_27 (fun c7 => ?_) (fun c7 => ?_)
        · rw [if_pos c7] at hbL5
          obtain rfl := Option.some.inj hbL5
          refine r_sub (lv' := []) [] rfl ?_
          exact J4
        · rw [if_neg c7] at hbL5
          refine r_iload_n C eX2_tend_30 2 rfl rfl ?_
          refine r_iload_n C eX2_tend_31 3 rfl rfl ?_
          refine r_aload_n C eX2_tend_32 1 rfl rfl ?_
          refine r_iload C eX2_tend_33 6 rfl ?_
          obtain ⟨r8, hr8, hbL5⟩ := zbind hbL5
          refine r_V_i (ws' := W_Ni (z_g x) a0 o0 (s1.2.2.2.1) (s1.2.2.2.2) ++ W_Ti (z_g x) a1 o1 (gTi_ints v1) (gTi_heights v1)) C (c_Ti_heightAt (z_l x) (z_g x) a1 o1 v1 (s1.2.2.1) r8 hr8) eX2_tend_35 MX2_26 ⟨0, 9, _, _, rfl, rfl, rfl⟩ [2, 3] rfl rfl rfl rfl [0, 1] rfl ⟨rfl, rfl, trivial⟩ 4 rfl rfl rfl rfl rfl rfl ?_
          obtain ⟨r9, hr9, hbL5⟩ := zbind hbL5
          refine r_S_i (ws' := W_Ni (z_g x) a0 o0 (s1.2.2.2.1) (s1.2.2.2.2) ++ W_Ti (z_g x) a1 o1 (gTi_ints v1) (gTi_heights v1)) C (c_Ni_lengthNeeded (z_l x) (z_g x)  p1 p2 r8 r9 hr9) eX2_tend_38 MX2_30 [] rfl rfl rfl rfl [0, 1, 2, 3] rfl ⟨rfl, rfl, rfl, rfl, trivial⟩ 4 rfl rfl rfl rfl rfl rfl ?_
          refine r_istore C [(7, .int r9), (0, .ref (a0 o0)), (1, .ref (a1 o1)), (2, .int p1), (3, .int p2), (4, .int (s1.1)), (5, .int (s1.2.1)), (6, .int (s1.2.2.1))] eX2_tend_41 (by decide) rfl ?_
          refine r_iload C eX2_tend_43 5 rfl ?_
          refine r_iload C eX2_tend_45 0 rfl ?_
          refine r_mmin C eX2_tend_47 MX2_34 rfl ?_
          obtain ⟨z10, hz10, hbL5⟩ := zlet_of hbL5
          refine r_nami hz10 ?_
          refine r_istore C [(4, .int z10), (7, .int r9), (0, .ref (a0 o0)), (1, .ref (a1 o1)), (2, .int p1), (3, .int p2), (5, .int (s1.2.1)), (6, .int (s1.2.2.1))] eX2_tend_50 (by decide) rfl ?_
          refine r_iload C eX2_tend_52 6 rfl ?_
          refine r_iload C eX2_tend_54 1 rfl ?_
          refine r_mmax C eX2_tend_56 MX2_39 rfl ?_
          obtain ⟨z11, hz11, hbL5⟩ := zlet_of hbL5
          refine r_nami hz11 ?_
          refine r_istore C [(5, .int z11), (4, .int z10), (7, .int r9), (0, .ref (a0 o0)), (1, .ref (a1 o1)), (2, .int p1), (3, .int p2), (6, .int (s1.2.2.1))] eX2_tend_59 (by decide) rfl ?_
          refine r_aload_n C eX2_tend_61 3 rfl rfl ?_
          refine r_get (v := .int ((s1.2.2.2.1) 0)) C eX2_tend_62 FX2_19 0 rfl rfl ?_
          refine r_if_eq C eX2_tend_65 (fun c12 => ?_) (fun c12 => ?_)
          · rw [if_pos c12] at hbL5
            refine r_iload C eX2_tend_78 2 rfl ?_
            refine r_istore C [(4, .int r9), (5, .int z11), (7, .int r9), (0, .ref (a0 o0)), (1, .ref (a1 o1)), (2, .int p1), (3, .int p2), (6, .int (s1.2.2.1))] eX2_tend_80 (by decide) rfl ?_
            refine r_iload C eX2_tend_82 2 rfl ?_
            refine r_istore C [(5, .int r9), (4, .int r9), (7, .int r9), (0, .ref (a0 o0)), (1, .ref (a1 o1)), (2, .int p1), (3, .int p2), (6, .int (s1.2.2.1))] eX2_tend_84 (by decide) rfl ?_
            refine r_aload_n C eX2_tend_86 3 rfl rfl ?_
            refine r_get (v := .ref (a0 (o0 + 1))) C eX2_tend_87 FX2_11 0 rfl rfl ?_
            refine r_aload_n C eX2_tend_90 3 rfl rfl ?_
            refine r_get (v := .int ((s1.2.2.2.1) 0)) C eX2_tend_91 FX2_19 0 rfl rfl ?_
            refine r_iload C eX2_tend_94 7 rfl ?_
            obtain ⟨hb13, hbL5⟩ := zchk hbL5
            refine r_iast (ws' := W_Ni (z_g x) a0 o0 (s1.2.2.2.1) (upd (s1.2.2.2.2) (ix ((s1.2.2.2.1) 0)) (s1.2.2.1)) ++ W_Ti (z_g x) a1 o1 (gTi_ints v1) (gTi_heights v1)) C eX2_tend_96 1 rfl (inb_in hb13) rfl ?_
            refine r_aload_n C eX2_tend_97 3 rfl rfl ?_
            refine r_dup C eX2_tend_98 rfl ?_
            refine r_get (v := .int ((s1.2.2.2.1) 0)) C eX2_tend_99 FX2_19 0 rfl rfl ?_
            refine r_iconst C (v := 1) eX2_tend_102 (by decide) ?_
            refine r_iadd C eX2_tend_103 ?_
            obtain ⟨z14, hz14, hbL5⟩ := zlet_of hbL5
            refine r_nami hz14 ?_
            refine r_put (ws' := W_Ni (z_g x) a0 o0 (upd (s1.2.2.2.1) 0 z14) (upd (s1.2.2.2.2) (ix ((s1.2.2.2.1) 0)) (s1.2.2.1)) ++ W_Ti (z_g x) a1 o1 (gTi_ints v1) (gTi_heights v1)) C eX2_tend_104 PX2_19 0 rfl rfl rfl (Nat.le_of_ble_eq_true rfl) rfl ?_
            refine r_iinc C (v := ((s1.2.2.1) + 1)) [(6, .int ((s1.2.2.1) + 1)), (5, .int r9), (4, .int r9), (7, .int r9), (0, .ref (a0 o0)), (1, .ref (a1 o1)), (2, .int p1), (3, .int p2)] eX2_tend_107 7 rfl rfl (by decide) rfl ?_
            refine r_goto C eX2_tend_110 ?_
            refine r_sub (lv' := [(0, .ref (a0 o0)), (1, .ref (a1 o1)), (2, .int p1), (3, .int p2), (4, .int r9), (5, .int r9), (6, .int ((s1.2.2.1) + 1))]) [4, 5, 6, 7, 2, 1, 0] rfl ?_
            have hc := ihL5 (r9, r9, ((s1.2.2.1) + 1), (upd (s1.2.2.2.1) 0 z14), (upd (s1.2.2.2.2) (ix ((s1.2.2.2.1) 0)) (s1.2.2.1))) hbL5
            exact hc
          · rw [if_neg c12] at hbL5
            refine r_iload C eX2_tend_68 0 rfl ?_
            refine r_iload C eX2_tend_70 1 rfl ?_
            refine r_isub C eX2_tend_72 ?_
            refine r_bipush C (v := 100) eX2_tend_73 (by decide) ?_
            refine r_icmp_le C eX2_tend_75 (fun c15 => ?_) (fun c15 => ?_)
            · rw [if_pos c15] at hbL5
              refine r_iinc C (v := ((s1.2.2.1) + 1)) [(6, .int ((s1.2.2.1) + 1)), (5, .int z11), (4, .int z10), (7, .int r9), (0, .ref (a0 o0)), (1, .ref (a1 o1)), (2, .int p1), (3, .int p2)] eX2_tend_107 7 rfl rfl (by decide) rfl ?_
              refine r_goto C eX2_tend_110 ?_
              refine r_sub (lv' := [(0, .ref (a0 o0)), (1, .ref (a1 o1)), (2, .int p1), (3, .int p2), (4, .int z10), (5, .int z11), (6, .int ((s1.2.2.1) + 1))]) [4, 5, 6, 7, 2, 1, 0] rfl ?_
              have hc := ihL5 (z10, z11, ((s1.2.2.1) + 1), (s1.2.2.2.1), (s1.2.2.2.2)) hbL5
              exact hc
            · rw [if_neg c15] at hbL5
              refine r_iload C eX2_tend_78 2 rfl ?_
              refine r_istore C [(4, .int r9), (5, .int z11), (7, .int r9), (0, .ref (a0 o0)), (1, .ref (a1 o1)), (2, .int p1), (3, .int p2), (6, .int (s1.2.2.1))] eX2_tend_80 (by decide) rfl ?_
              refine r_iload C eX2_tend_82 2 rfl ?_
              refine r_istore C [(5, .int r9), (4, .int r9), (7, .int r9), (0, .ref (a0 o0)), (1, .ref (a1 o1)), (2, .int p1), (3, .int p2), (6, .int (s1.2.2.1))] eX2_tend_84 (by decide) rfl ?_
              refine r_aload_n C eX2_tend_86 3 rfl rfl ?_
              refine r_get (v := .ref (a0 (o0 + 1))) C eX2_tend_87 FX2_11 0 rfl rfl ?_
              refine r_aload_n C eX2_tend_90 3 rfl rfl ?_
              refine r_get (v := .int ((s1.2.2.2.1) 0)) C eX2_tend_91 FX2_19 0 rfl rfl ?_
              refine r_iload C eX2_tend_94 7 rfl ?_
              obtain ⟨hb16, hbL5⟩ := zchk hbL5
              refine r_iast (ws' := W_Ni (z_g x) a0 o0 (s1.2.2.2.1) (upd (s1.2.2.2.2) (ix ((s1.2.2.2.1) 0)) (s1.2.2.1)) ++ W_Ti (z_g x) a1 o1 (gTi_ints v1) (gTi_heights v1)) C eX2_tend_96 1 rfl (inb_in hb16) rfl ?_
              refine r_aload_n C eX2_tend_97 3 rfl rfl ?_
              refine r_dup C eX2_tend_98 rfl ?_
              refine r_get (v := .int ((s1.2.2.2.1) 0)) C eX2_tend_99 FX2_19 0 rfl rfl ?_
              refine r_iconst C (v := 1) eX2_tend_102 (by decide) ?_
              refine r_iadd C eX2_tend_103 ?_
              obtain ⟨z17, hz17, hbL5⟩ := zlet_of hbL5
              refine r_nami hz17 ?_
              refine r_put (ws' := W_Ni (z_g x) a0 o0 (upd (s1.2.2.2.1) 0 z17) (upd (s1.2.2.2.2) (ix ((s1.2.2.2.1) 0)) (s1.2.2.1)) ++ W_Ti (z_g x) a1 o1 (gTi_ints v1) (gTi_heights v1)) C eX2_tend_104 PX2_19 0 rfl rfl rfl (Nat.le_of_ble_eq_true rfl) rfl ?_
              refine r_iinc C (v := ((s1.2.2.1) + 1)) [(6, .int ((s1.2.2.1) + 1)), (5, .int r9), (4, .int r9), (7, .int r9), (0, .ref (a0 o0)), (1, .ref (a1 o1)), (2, .int p1), (3, .int p2)] eX2_tend_107 7 rfl rfl (by decide) rfl ?_
              refine r_goto C eX2_tend_110 ?_
              refine r_sub (lv' := [(0, .ref (a0 o0)), (1, .ref (a1 o1)), (2, .int p1), (3, .int p2), (4, .int r9), (5, .int r9), (6, .int ((s1.2.2.1) + 1))]) [4, 5, 6, 7, 2, 1, 0] rfl ?_
              have hc := ihL5 (r9, r9, ((s1.2.2.1) + 1), (upd (s1.2.2.2.1) 0 z17), (upd (s1.2.2.2.2) (ix ((s1.2.2.2.1) 0)) (s1.2.2.1))) hbL5
              exact hc
  refine r_sub (lv' := [(0, .ref (a0 o0)), (1, .ref (a1 o1)), (2, .int p1), (3, .int p2), (4, .int 0), (5, .int 0), (6, .int 0)]) [3, 4, 5, 6, 2, 1, 0] rfl ?_
  have hc := L5 LF (0, 0, 0, (upd (gNi_ints v0) 0 0), (gNi_hours v0)) h3
  exact hc
