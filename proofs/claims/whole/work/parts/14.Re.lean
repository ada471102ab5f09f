theorem eX5_fail_0 : zd 1 cX5_fail 0 1 (.aload_n 0) := ⟨by decide +kernel, rfl⟩
theorem eX5_fail_1 : zd 1 cX5_fail 1 2 (.iload_n 1) := ⟨by decide +kernel, rfl⟩
theorem eX5_fail_2 : zd 3 cX5_fail 2 5 (.putfield 39) := ⟨by decide +kernel, rfl⟩
theorem eX5_fail_5 : zd 1 cX5_fail 5 6 (.aload_n 0) := ⟨by decide +kernel, rfl⟩
theorem eX5_fail_6 : zd 1 cX5_fail 6 7 (.iload_n 2) := ⟨by decide +kernel, rfl⟩
theorem eX5_fail_7 : zd 3 cX5_fail 7 10 (.putfield 43) := ⟨by decide +kernel, rfl⟩
theorem eX5_fail_10 : zd 1 cX5_fail 10 11 (.return_) := ⟨by decide +kernel, rfl⟩
theorem PX5_39 : zlP RX5 39 5 3 .int := ⟨(RX5, TX5, 8), tyX5, rfl, by decide, q165, zin5, tyX5_ok, nmX5, rfl, by decide +kernel⟩
theorem PX5_43 : zlP RX5 43 5 4 .int := ⟨(RX5, TX5, 8), tyX5, rfl, by decide, q167, zin5, tyX5_ok, nmX5, rfl, by decide +kernel⟩
noncomputable def f_Re_fail (v0 : tRe) (p1 : Int32) (p2 : Int32) : (Nat → Int32) := (upd (upd (gRe_ints v0) 3 p1) 4 p2)
abbrev rm_Re_fail : Room := { frames := 0, cells := 0, slots := 0, locals := 0 }
set_option maxHeartbeats 4000000 in
set_option maxRecDepth 100000 in
theorem c_Re_fail (l : Launch) (g : zGl) (a0 : Nat → Nat) (o0 : Nat) (v0 : tRe) (p1 : Int32) (p2 : Int32) (out : (Nat → Int32)) (hf : f_Re_fail v0 p1 p2 = out) : zMv l yX5_fail cX5_fail 3 rm_Re_fail g [.ref (a0 o0), .int p1, .int p2] (W_Re g a0 o0 (gRe_ints v0) (gQu_ints (gRe_quayDraft v0)) (gQu_places (gRe_quayDraft v0)) (gQu_strengths (gRe_quayDraft v0)) (gPl_ints (gRe_planDraft v0)) (gPl_seconds (gRe_planDraft v0)) (gPl_engines (gRe_planDraft v0)) (gPl_wheels (gRe_planDraft v0)) (gTi_ints (gRe_tideDraft v0)) (gTi_heights (gRe_tideDraft v0)) (gRe_times v0) (gRe_row v0))  (W_Re g a0 o0 out (gQu_ints (gRe_quayDraft v0)) (gQu_places (gRe_quayDraft v0)) (gQu_strengths (gRe_quayDraft v0)) (gPl_ints (gRe_planDraft v0)) (gPl_seconds (gRe_planDraft v0)) (gPl_engines (gRe_planDraft v0)) (gPl_wheels (gRe_planDraft v0)) (gTi_ints (gRe_tideDraft v0)) (gTi_heights (gRe_tideDraft v0)) (gRe_times v0) (gRe_row v0)) := by
  refine zMv_of (lv := [(0, .ref (a0 o0)), (1, .int p1), (2, .int p2)]) (by decide) (Nat.le_of_ble_eq_true rfl) rfl (fun x hl hg C hret => ?_)
  subst hl; subst hg
  rw [f_Re_fail] at hf
  refine r_aload_n C eX5_fail_0 0 rfl rfl ?_
  refine r_iload_n C eX5_fail_1 1 rfl rfl ?_
  refine r_put (ws' := W_Re (z_g x) a0 o0 (upd (gRe_ints v0) 3 p1) (gQu_ints (gRe_quayDraft v0)) (gQu_places (gRe_quayDraft v0)) (gQu_strengths (gRe_quayDraft v0)) (gPl_ints (gRe_planDraft v0)) (gPl_seconds (gRe_planDraft v0)) (gPl_engines (gRe_planDraft v0)) (gPl_wheels (gRe_planDraft v0)) (gTi_ints (gRe_tideDraft v0)) (gTi_heights (gRe_tideDraft v0)) (gRe_times v0) (gRe_row v0)) C eX5_fail_2 PX5_39 0 rfl rfl rfl (Nat.le_of_ble_eq_true rfl) rfl ?_
  refine r_aload_n C eX5_fail_5 0 rfl rfl ?_
  refine r_iload_n C eX5_fail_6 2 rfl rfl ?_
  refine r_put (ws' := W_Re (z_g x) a0 o0 (upd (upd (gRe_ints v0) 3 p1) 4 p2) (gQu_ints (gRe_quayDraft v0)) (gQu_places (gRe_quayDraft v0)) (gQu_strengths (gRe_quayDraft v0)) (gPl_ints (gRe_planDraft v0)) (gPl_seconds (gRe_planDraft v0)) (gPl_engines (gRe_planDraft v0)) (gPl_wheels (gRe_planDraft v0)) (gTi_ints (gRe_tideDraft v0)) (gTi_heights (gRe_tideDraft v0)) (gRe_times v0) (gRe_row v0)) C eX5_fail_7 PX5_43 0 rfl rfl rfl (Nat.le_of_ble_eq_true rfl) rfl ?_
  subst hf
  exact hret _ _ _ eX5_fail_10
theorem eX5_isOutOfBounds_0 : zd 1 cX5_isOutOfBounds 0 1 (.iload_n 1) := ⟨by decide +kernel, rfl⟩
theorem eX5_isOutOfBounds_1 : zd 1 cX5_isOutOfBounds 1 2 (.iconst 3) := ⟨by decide +kernel, rfl⟩
theorem eX5_isOutOfBounds_2 : zd 1 cX5_isOutOfBounds 2 3 (.imul) := ⟨by decide +kernel, rfl⟩
theorem eX5_isOutOfBounds_3 : zd 1 cX5_isOutOfBounds 3 4 (.iload_n 2) := ⟨by decide +kernel, rfl⟩
theorem eX5_isOutOfBounds_4 : zd 1 cX5_isOutOfBounds 4 5 (.iadd) := ⟨by decide +kernel, rfl⟩
theorem eX5_isOutOfBounds_5 : zd 2 cX5_isOutOfBounds 5 7 (.istore 4) := ⟨by decide +kernel, rfl⟩
theorem eX5_isOutOfBounds_7 : zd 1 cX5_isOutOfBounds 7 8 (.iload_n 3) := ⟨by decide +kernel, rfl⟩
theorem eX5_isOutOfBounds_8 : zd 3 cX5_isOutOfBounds 8 11 (.getstatic 109) := ⟨by decide +kernel, rfl⟩
theorem eX5_isOutOfBounds_11 : zd 2 cX5_isOutOfBounds 11 13 (.iload 4) := ⟨by decide +kernel, rfl⟩
theorem eX5_isOutOfBounds_13 : zd 1 cX5_isOutOfBounds 13 14 (.iaload) := ⟨by decide +kernel, rfl⟩
theorem eX5_isOutOfBounds_14 : zdi cX5_isOutOfBounds 14 17 46 (.if_icmp .lt) := ⟨32, by decide +kernel, rfl, by decide⟩
theorem eX5_isOutOfBounds_17 : zd 1 cX5_isOutOfBounds 17 18 (.iload_n 3) := ⟨by decide +kernel, rfl⟩
theorem eX5_isOutOfBounds_18 : zd 3 cX5_isOutOfBounds 18 21 (.getstatic 112) := ⟨by decide +kernel, rfl⟩
theorem eX5_isOutOfBounds_21 : zd 2 cX5_isOutOfBounds 21 23 (.iload 4) := ⟨by decide +kernel, rfl⟩
theorem eX5_isOutOfBounds_23 : zd 1 cX5_isOutOfBounds 23 24 (.iaload) := ⟨by decide +kernel, rfl⟩
theorem eX5_isOutOfBounds_24 : zdi cX5_isOutOfBounds 24 27 46 (.if_icmp .gt) := ⟨22, by decide +kernel, rfl, by decide⟩
theorem eX5_isOutOfBounds_27 : zd 1 cX5_isOutOfBounds 27 28 (.iload_n 1) := ⟨by decide +kernel, rfl⟩
theorem eX5_isOutOfBounds_28 : zdi cX5_isOutOfBounds 28 31 50 (.ifCond .ne) := ⟨22, by decide +kernel, rfl, by decide⟩
theorem eX5_isOutOfBounds_31 : zd 1 cX5_isOutOfBounds 31 32 (.iload_n 2) := ⟨by decide +kernel, rfl⟩
theorem eX5_isOutOfBounds_32 : zd 1 cX5_isOutOfBounds 32 33 (.iconst 1) := ⟨by decide +kernel, rfl⟩
theorem eX5_isOutOfBounds_33 : zdi cX5_isOutOfBounds 33 36 50 (.if_icmp .ne) := ⟨17, by decide +kernel, rfl, by decide⟩
theorem eX5_isOutOfBounds_36 : zd 1 cX5_isOutOfBounds 36 37 (.iload_n 3) := ⟨by decide +kernel, rfl⟩
theorem eX5_isOutOfBounds_37 : zd 1 cX5_isOutOfBounds 37 38 (.aload_n 0) := ⟨by decide +kernel, rfl⟩
theorem eX5_isOutOfBounds_38 : zd 3 cX5_isOutOfBounds 38 41 (.getfield 36) := ⟨by decide +kernel, rfl⟩
theorem eX5_isOutOfBounds_41 : zd 1 cX5_isOutOfBounds 41 42 (.iconst 0) := ⟨by decide +kernel, rfl⟩
theorem eX5_isOutOfBounds_42 : zd 1 cX5_isOutOfBounds 42 43 (.iaload) := ⟨by decide +kernel, rfl⟩
theorem eX5_isOutOfBounds_43 : zdi cX5_isOutOfBounds 43 46 50 (.if_icmp .gt) := ⟨7, by decide +kernel, rfl, by decide⟩
theorem eX5_isOutOfBounds_46 : zd 1 cX5_isOutOfBounds 46 47 (.iconst 1) := ⟨by decide +kernel, rfl⟩
theorem eX5_isOutOfBounds_47 : zdi cX5_isOutOfBounds 47 50 51 (.goto) := ⟨4, by decide +kernel, rfl, by decide⟩
theorem eX5_isOutOfBounds_50 : zd 1 cX5_isOutOfBounds 50 51 (.iconst 0) := ⟨by decide +kernel, rfl⟩
theorem eX5_isOutOfBounds_51 : zd 1 cX5_isOutOfBounds 51 52 (.ireturn) := ⟨by decide +kernel, rfl⟩
theorem FX5_36 : zlF RX5 36 5 6 := ⟨(RX5, TX5, 8), rfl, by decide, q170, zin5⟩
noncomputable def f_Re_isOutOfBounds (v0 : tRe) (p1 : Int32) (p2 : Int32) (p3 : Int32) : Option (Int32) := (zlet ((p1 * 3) + p2) (fun (z1 : Int32) => (if inb z1 33 = true then (if p3 < (zT_LEAST.getD (ix z1) 0) then (some 1) else (if inb z1 33 = true then (if (zT_MOST.getD (ix z1) 0) < p3 then (some 1) else (if p1 = 0 then (if p2 = 1 then (if ((gRe_row v0) 0) < p3 then (some 0) else (some 1)) else (some 0)) else (some 0))) else none)) else none)))
abbrev rm_Re_isOutOfBounds : Room := { frames := 0, cells := 0, slots := 0, locals := 0 }
set_option maxHeartbeats 4000000 in
set_option maxRecDepth 100000 in
theorem c_Re_isOutOfBounds (l : Launch) (g : zGl) (a0 : Nat → Nat) (o0 : Nat) (v0 : tRe) (p1 : Int32) (p2 : Int32) (p3 : Int32) (out : Int32) (hf : f_Re_isOutOfBounds v0 p1 p2 p3 = some out) : zMz l yX5_isOutOfBounds cX5_isOutOfBounds 5 rm_Re_isOutOfBounds g [.ref (a0 o0), .int p1, .int p2, .int p3] (W_Re g a0 o0 (gRe_ints v0) (gQu_ints (gRe_quayDraft v0)) (gQu_places (gRe_quayDraft v0)) (gQu_strengths (gRe_quayDraft v0)) (gPl_ints (gRe_planDraft v0)) (gPl_seconds (gRe_planDraft v0)) (gPl_engines (gRe_planDraft v0)) (gPl_wheels (gRe_planDraft v0)) (gTi_ints (gRe_tideDraft v0)) (gTi_heights (gRe_tideDraft v0)) (gRe_times v0) (gRe_row v0)) out (W_Re g a0 o0 (gRe_ints v0) (gQu_ints (gRe_quayDraft v0)) (gQu_places (gRe_quayDraft v0)) (gQu_strengths (gRe_quayDraft v0)) (gPl_ints (gRe_planDraft v0)) (gPl_seconds (gRe_planDraft v0)) (gPl_engines (gRe_planDraft v0)) (gPl_wheels (gRe_planDraft v0)) (gTi_ints (gRe_tideDraft v0)) (gTi_heights (gRe_tideDraft v0)) (gRe_times v0) (gRe_row v0)) := by
  refine zMz_of (lv := [(0, .ref (a0 o0)), (1, .int p1), (2, .int p2), (3, .int p3)]) (by decide) (Nat.le_of_ble_eq_true rfl) rfl (fun x hl hg C hret => ?_)
  subst hl; subst hg
  rw [f_Re_isOutOfBounds] at hf
  refine r_iload_n C eX5_isOutOfBounds_0 1 rfl rfl ?_
  refine r_iconst C (v := 3) eX5_isOutOfBounds_1 (by decide) ?_
  refine r_imul C eX5_isOutOfBounds_2 ?_
  refine r_iload_n C eX5_isOutOfBounds_3 2 rfl rfl ?_
  refine r_iadd C eX5_isOutOfBounds_4 ?_
  obtain ⟨z1, hz1, hf⟩ := zlet_of hf
  refine r_nami hz1 ?_
  refine r_istore C [(4, .int z1), (0, .ref (a0 o0)), (1, .int p1), (2, .int p2), (3, .int p3)] eX5_isOutOfBounds_5 (by decide) rfl ?_
  refine r_iload_n C eX5_isOutOfBounds_7 4 rfl rfl ?_
  refine r_stab C (f := zT_LEAST) eX5_isOutOfBounds_8 (List.mem_of_getElem? (i := 6) rfl) q559 (fun tt2 hT3 => ?_)
  refine r_iload C eX5_isOutOfBounds_11 0 rfl ?_
  obtain ⟨hb4, hf⟩ := zchk hf
  refine r_tld C hT3 eX5_isOutOfBounds_13 (inb_in hb4) ?_
  refine r_icmp_lt C eX5_isOutOfBounds_14 (fun c5 => ?_) (fun c5 => ?_)
  · rw [if_pos c5] at hf
    refine r_iconst C (v := 1) eX5_isOutOfBounds_46 (by decide) ?_
    refine r_goto C eX5_isOutOfBounds_47 ?_
    obtain rfl := Option.some.inj (show some (1 : Int32) = some _ from hf)
    exact hret _ _ _ eX5_isOutOfBounds_51 zB1
  · rw [if_neg c5] at hf
    refine r_iload_n C eX5_isOutOfBounds_17 4 rfl rfl ?_
    refine r_stab C (f := zT_MOST) eX5_isOutOfBounds_18 (List.mem_of_getElem? (i := 7) rfl) q561 (fun tt6 hT7 => ?_)
    refine r_iload C eX5_isOutOfBounds_21 0 rfl ?_
    obtain ⟨hb8, hf⟩ := zchk hf
    refine r_tld C hT7 eX5_isOutOfBounds_23 (inb_in hb8) ?_
    refine r_icmp_gt C eX5_isOutOfBounds_24 (fun c9 => ?_) (fun c9 => ?_)
    · rw [if_pos c9] at hf
      refine r_iconst C (v := 1) eX5_isOutOfBounds_46 (by decide) ?_
      refine r_goto C eX5_isOutOfBounds_47 ?_
      obtain rfl := Option.some.inj (show some (1 : Int32) = some _ from hf)
      exact hret _ _ _ eX5_isOutOfBounds_51 zB1
    · rw [if_neg c9] at hf
      refine r_iload_n C eX5_isOutOfBounds_27 2 rfl rfl ?_
      refine r_if_ne C eX5_isOutOfBounds_28 (fun c10 => ?_) (fun c10 => ?_)
      · rw [if_neg c10] at hf
        refine r_iconst C (v := 0) eX5_isOutOfBounds_50 (by decide) ?_
        obtain rfl := Option.some.inj (show some (0 : Int32) = some _ from hf)
        exact hret _ _ _ eX5_isOutOfBounds_51 zB0
      · rw [if_pos c10] at hf
        refine r_iload_n C eX5_isOutOfBounds_31 3 rfl rfl ?_
        refine r_iconst C (v := 1) eX5_isOutOfBounds_32 (by decide) ?_
        refine r_icmp_ne C eX5_isOutOfBounds_33 (fun c11 => ?_) (fun c11 => ?_)
        · rw [if_neg c11] at hf
          refine r_iconst C (v := 0) eX5_isOutOfBounds_50 (by decide) ?_
          obtain rfl := Option.some.inj (show some (0 : Int32) = some _ from hf)
          exact hret _ _ _ eX5_isOutOfBounds_51 zB0
        · rw [if_pos c11] at hf
          refine r_iload_n C eX5_isOutOfBounds_36 4 rfl rfl ?_
          refine r_aload_n C eX5_isOutOfBounds_37 1 rfl rfl ?_
          refine r_get (v := .ref (a0 (o0 + 2))) C eX5_isOutOfBounds_38 FX5_36 0 rfl rfl ?_
          refine r_iconst C (v := 0) eX5_isOutOfBounds_41 (by decide) ?_
          refine r_ialdN C eX5_isOutOfBounds_42 2 0 (by decide) rfl ((gRe_row v0) 0) rfl ?_
          refine r_icmp_gt C eX5_isOutOfBounds_43 (fun c12 => ?_) (fun c12 => ?_)
          · rw [if_pos c12] at hf
            refine r_iconst C (v := 0) eX5_isOutOfBounds_50 (by decide) ?_
            obtain rfl := Option.some.inj (show some (0 : Int32) = some _ from hf)
            exact hret _ _ _ eX5_isOutOfBounds_51 zB0
          · rw [if_neg c12] at hf
            refine r_iconst C (v := 1) eX5_isOutOfBounds_46 (by decide) ?_
            refine r_goto C eX5_isOutOfBounds_47 ?_
            obtain rfl := Option.some.inj (show some (1 : Int32) = some _ from hf)
            exact hret _ _ _ eX5_isOutOfBounds_51 zB1
theorem eX5_isTakenAlready_0 : zd 1 cX5_isTakenAlready 0 1 (.iload_n 1) := ⟨by decide +kernel, rfl⟩
theorem eX5_isTakenAlready_1 : zd 1 cX5_isTakenAlready 1 2 (.iconst 1) := ⟨by decide +kernel, rfl⟩
theorem eX5_isTakenAlready_2 : zdi cX5_isTakenAlready 2 5 16 (.if_icmp .ne) := ⟨14, by decide +kernel, rfl, by decide⟩
theorem eX5_isTakenAlready_5 : zd 1 cX5_isTakenAlready 5 6 (.aload_n 0) := ⟨by decide +kernel, rfl⟩
theorem eX5_isTakenAlready_6 : zd 3 cX5_isTakenAlready 6 9 (.getfield 12) := ⟨by decide +kernel, rfl⟩
theorem eX5_isTakenAlready_9 : zd 1 cX5_isTakenAlready 9 10 (.iload_n 2) := ⟨by decide +kernel, rfl⟩
theorem eX5_isTakenAlready_10 : zd 3 cX5_isTakenAlready 10 13 (.invokevirtual 115) := ⟨by decide +kernel, rfl⟩
theorem eX5_isTakenAlready_13 : zdi cX5_isTakenAlready 13 16 33 (.ifCond .ne) := ⟨20, by decide +kernel, rfl, by decide⟩
theorem eX5_isTakenAlready_16 : zd 1 cX5_isTakenAlready 16 17 (.iload_n 1) := ⟨by decide +kernel, rfl⟩
theorem eX5_isTakenAlready_17 : zd 2 cX5_isTakenAlready 17 19 (.bipush 9) := ⟨by decide +kernel, rfl⟩
theorem eX5_isTakenAlready_19 : zdi cX5_isTakenAlready 19 22 37 (.if_icmp .ne) := ⟨18, by decide +kernel, rfl, by decide⟩
theorem eX5_isTakenAlready_22 : zd 1 cX5_isTakenAlready 22 23 (.aload_n 0) := ⟨by decide +kernel, rfl⟩
theorem eX5_isTakenAlready_23 : zd 3 cX5_isTakenAlready 23 26 (.getfield 21) := ⟨by decide +kernel, rfl⟩
theorem eX5_isTakenAlready_26 : zd 1 cX5_isTakenAlready 26 27 (.iload_n 2) := ⟨by decide +kernel, rfl⟩
theorem eX5_isTakenAlready_27 : zd 3 cX5_isTakenAlready 27 30 (.invokevirtual 119) := ⟨by decide +kernel, rfl⟩
theorem eX5_isTakenAlready_30 : zdi cX5_isTakenAlready 30 33 37 (.ifCond .ne) := ⟨7, by decide +kernel, rfl, by decide⟩
theorem eX5_isTakenAlready_33 : zd 1 cX5_isTakenAlready 33 34 (.iconst 1) := ⟨by decide +kernel, rfl⟩
theorem eX5_isTakenAlready_34 : zdi cX5_isTakenAlready 34 37 38 (.goto) := ⟨4, by decide +kernel, rfl, by decide⟩
theorem eX5_isTakenAlready_37 : zd 1 cX5_isTakenAlready 37 38 (.iconst 0) := ⟨by decide +kernel, rfl⟩
theorem eX5_isTakenAlready_38 : zd 1 cX5_isTakenAlready 38 39 (.ireturn) := ⟨by decide +kernel, rfl⟩
theorem FX5_12 : zlF RX5 12 5 0 := ⟨(RX5, TX5, 8), rfl, by decide, q159, zin5⟩
theorem FX5_21 : zlF RX5 21 5 1 := ⟨(RX5, TX5, 8), rfl, by decide, q161, zin5⟩
theorem MX5_115 : zlV RX5 115 yX4_hasPostAt cX4_hasPostAt 3 ((Option.some FieldType.boolean)) 1 := ⟨q567, q568, q569, q4, q570, by decide, by decide, by decide +kernel⟩
theorem MX5_119 : zlV RX5 119 yX3_isBehind cX3_isBehind 2 ((Option.some FieldType.boolean)) 1 := ⟨q571, q572, q573, q5, q574, by decide, by decide, by decide +kernel⟩
noncomputable def f_Re_isTakenAlready (v0 : tRe) (p1 : Int32) (p2 : Int32) : Option (Int32) := (if p1 = 1 then (Option.bind (f_Qu_hasPostAt (gRe_quayDraft v0) p2) (fun (r2 : Int32) => (if r2 = 0 then (if p1 = 9 then (Option.bind (f_Pl_isBehind (gRe_planDraft v0) p2) (fun (r6 : Int32) => (if r6 = 0 then (some 1) else (some 0)))) else (some 0)) else (some 1)))) else (if p1 = 9 then (Option.bind (f_Pl_isBehind (gRe_planDraft v0) p2) (fun (r10 : Int32) => (if r10 = 0 then (some 1) else (some 0)))) else (some 0)))
abbrev rm_Re_isTakenAlready : Room := { frames := 1, cells := 0, slots := 0, locals := 22 }
set_option maxHeartbeats 4000000 in
set_option maxRecDepth 100000 in
theorem c_Re_isTakenAlready (l : Launch) (g : zGl) (a0 : Nat → Nat) (o0 : Nat) (v0 : tRe) (p1 : Int32) (p2 : Int32) (out : Int32) (hf : f_Re_isTakenAlready v0 p1 p2 = some out) : zMz l yX5_isTakenAlready cX5_isTakenAlready 3 rm_Re_isTakenAlready g [.ref (a0 o0), .int p1, .int p2] (W_Re g a0 o0 (gRe_ints v0) (gQu_ints (gRe_quayDraft v0)) (gQu_places (gRe_quayDraft v0)) (gQu_strengths (gRe_quayDraft v0)) (gPl_ints (gRe_planDraft v0)) (gPl_seconds (gRe_planDraft v0)) (gPl_engines (gRe_planDraft v0)) (gPl_wheels (gRe_planDraft v0)) (gTi_ints (gRe_tideDraft v0)) (gTi_heights (gRe_tideDraft v0)) (gRe_times v0) (gRe_row v0)) out (W_Re g a0 o0 (gRe_ints v0) (gQu_ints (gRe_quayDraft v0)) (gQu_places (gRe_quayDraft v0)) (gQu_strengths (gRe_quayDraft v0)) (gPl_ints (gRe_planDraft v0)) (gPl_seconds (gRe_planDraft v0)) (gPl_engines (gRe_planDraft v0)) (gPl_wheels (gRe_planDraft v0)) (gTi_ints (gRe_tideDraft v0)) (gTi_heights (gRe_tideDraft v0)) (gRe_times v0) (gRe_row v0)) := by
  refine zMz_of (lv := [(0, .ref (a0 o0)), (1, .int p1), (2, .int p2)]) (by decide) (Nat.le_of_ble_eq_true rfl) rfl (fun x hl hg C hret => ?_)
  subst hl; subst hg
  rw [f_Re_isTakenAlready] at hf
  refine r_iload_n C eX5_isTakenAlready_0 1 rfl rfl ?_
  refine r_iconst C (v := 1) eX5_isTakenAlready_1 (by decide) ?_
  refine r_icmp_ne C eX5_isTakenAlready_2 (fun c1 => ?_) (fun c1 => ?_)
  · rw [if_neg c1] at hf
    refine r_iload_n C eX5_isTakenAlready_16 1 rfl rfl ?_
    refine r_bipush C (v := 9) eX5_isTakenAlready_17 (by decide) ?_
    refine r_icmp_ne C eX5_isTakenAlready_19 (fun c9 => ?_) (fun c9 => ?_)
    · rw [if_neg c9] at hf
      refine r_iconst C (v := 0) eX5_isTakenAlready_37 (by decide) ?_
      obtain rfl := Option.some.inj (show some (0 : Int32) = some _ from hf)
      exact hret _ _ _ eX5_isTakenAlready_38 zB0
    · rw [if_pos c9] at hf
      refine r_aload_n C eX5_isTakenAlready_22 0 rfl rfl ?_
      refine r_get (v := .ref (a0 (o0 + 6))) C eX5_isTakenAlready_23 FX5_21 0 rfl rfl ?_
      refine r_iload_n C eX5_isTakenAlready_26 2 rfl rfl ?_
      obtain ⟨r10, hr10, hf⟩ := zbind hf
      refine r_V_z (ws' := W_Re (z_g x) a0 o0 (gRe_ints v0) (gQu_ints (gRe_quayDraft v0)) (gQu_places (gRe_quayDraft v0)) (gQu_strengths (gRe_quayDraft v0)) (gPl_ints (gRe_planDraft v0)) (gPl_seconds (gRe_planDraft v0)) (gPl_engines (gRe_planDraft v0)) (gPl_wheels (gRe_planDraft v0)) (gTi_ints (gRe_tideDraft v0)) (gTi_heights (gRe_tideDraft v0)) (gRe_times v0) (gRe_row v0)) C (c_Pl_isBehind (z_l x) (z_g x) a0 (o0 + 6) (gRe_planDraft v0) p2 r10 hr10) eX5_isTakenAlready_27 MX5_119 ⟨0, 3, _, _, rfl, rfl, rfl⟩ [6, 7, 8, 9] rfl rfl rfl rfl [0, 1, 2, 3, 4, 5, 10, 11] rfl ⟨rfl, rfl, rfl, rfl, rfl, rfl, rfl, rfl, trivial⟩ 12 rfl rfl rfl rfl rfl rfl (fun zb11 => ?_)
      refine r_if_ne C eX5_isTakenAlready_30 (fun c12 => ?_) (fun c12 => ?_)
      · rw [if_neg c12] at hf
        refine r_iconst C (v := 0) eX5_isTakenAlready_37 (by decide) ?_
        obtain rfl := Option.some.inj (show some (0 : Int32) = some _ from hf)
        exact hret _ _ _ eX5_isTakenAlready_38 zB0
      · rw [if_pos c12] at hf
        refine r_iconst C (v := 1) eX5_isTakenAlready_33 (by decide) ?_
        refine r_goto C eX5_isTakenAlready_34 ?_
        obtain rfl := Option.some.inj (show some (1 : Int32) = some _ from hf)
        exact hret _ _ _ eX5_isTakenAlready_38 zB1
  · rw [if_pos c1] at hf
    refine r_aload_n C eX5_isTakenAlready_5 0 rfl rfl ?_
    refine r_get (v := .ref (a0 (o0 + 3))) C eX5_isTakenAlready_6 FX5_12 0 rfl rfl ?_
    refine r_iload_n C eX5_isTakenAlready_9 2 rfl rfl ?_
    obtain ⟨r2, hr2, hf⟩ := zbind hf
    refine r_V_z (ws' := W_Re (z_g x) a0 o0 (gRe_ints v0) (gQu_ints (gRe_quayDraft v0)) (gQu_places (gRe_quayDraft v0)) (gQu_strengths (gRe_quayDraft v0)) (gPl_ints (gRe_planDraft v0)) (gPl_seconds (gRe_planDraft v0)) (gPl_engines (gRe_planDraft v0)) (gPl_wheels (gRe_planDraft v0)) (gTi_ints (gRe_tideDraft v0)) (gTi_heights (gRe_tideDraft v0)) (gRe_times v0) (gRe_row v0)) C (c_Qu_hasPostAt (z_l x) (z_g x) a0 (o0 + 3) (gRe_quayDraft v0) p2 r2 hr2) eX5_isTakenAlready_10 MX5_115 ⟨0, 4, _, _, rfl, rfl, rfl⟩ [3, 4, 5] rfl rfl rfl rfl [0, 1, 2, 6, 7, 8, 9, 10, 11] rfl ⟨rfl, rfl, rfl, rfl, rfl, rfl, rfl, rfl, rfl, trivial⟩ 12 rfl rfl rfl rfl rfl rfl (fun zb3 => ?_)
    refine r_if_ne C eX5_isTakenAlready_13 (fun c4 => ?_) (fun c4 => ?_)
    · rw [if_neg c4] at hf
      refine r_iconst C (v := 1) eX5_isTakenAlready_33 (by decide) ?_
      refine r_goto C eX5_isTakenAlready_34 ?_
      obtain rfl := Option.some.inj (show some (1 : Int32) = some _ from hf)
      exact hret _ _ _ eX5_isTakenAlready_38 zB1
    · rw [if_pos c4] at hf
      refine r_iload_n C eX5_isTakenAlready_16 1 rfl rfl ?_
      refine r_bipush C (v := 9) eX5_isTakenAlready_17 (by decide) ?_
      refine r_icmp_ne C eX5_isTakenAlready_19 (fun c5 => ?_) (fun c5 => ?_)
      · rw [if_neg c5] at hf
        refine r_iconst C (v := 0) eX5_isTakenAlready_37 (by decide) ?_
        obtain rfl := Option.some.inj (show some (0 : Int32) = some _ from hf)
        exact hret _ _ _ eX5_isTakenAlready_38 zB0
      · rw [if_pos c5] at hf
        refine r_aload_n C eX5_isTakenAlready_22 0 rfl rfl ?_
        refine r_get (v := .ref (a0 (o0 + 6))) C eX5_isTakenAlready_23 FX5_21 0 rfl rfl ?_
        refine r_iload_n C eX5_isTakenAlready_26 2 rfl rfl ?_
        obtain ⟨r6, hr6, hf⟩ := zbind hf
        refine r_V_z (ws' := W_Re (z_g x) a0 o0 (gRe_ints v0) (gQu_ints (gRe_quayDraft v0)) (gQu_places (gRe_quayDraft v0)) (gQu_strengths (gRe_quayDraft v0)) (gPl_ints (gRe_planDraft v0)) (gPl_seconds (gRe_planDraft v0)) (gPl_engines (gRe_planDraft v0)) (gPl_wheels (gRe_planDraft v0)) (gTi_ints (gRe_tideDraft v0)) (gTi_heights (gRe_tideDraft v0)) (gRe_times v0) (gRe_row v0)) C (c_Pl_isBehind (z_l x) (z_g x) a0 (o0 + 6) (gRe_planDraft v0) p2 r6 hr6) eX5_isTakenAlready_27 MX5_119 ⟨0, 3, _, _, rfl, rfl, rfl⟩ [6, 7, 8, 9] rfl rfl rfl rfl [0, 1, 2, 3, 4, 5, 10, 11] rfl ⟨rfl, rfl, rfl, rfl, rfl, rfl, rfl, rfl, trivial⟩ 12 rfl rfl rfl rfl rfl rfl (fun zb7 => ?_)
        refine r_if_ne C eX5_isTakenAlready_30 (fun c8 => ?_) (fun c8 => ?_)
        · rw [if_neg c8] at hf
          refine r_iconst C (v := 0) eX5_isTakenAlready_37 (by decide) ?_
          obtain rfl := Option.some.inj (show some (0 : Int32) = some _ from hf)
          exact hret _ _ _ eX5_isTakenAlready_38 zB0
        · rw [if_pos c8] at hf
          refine r_iconst C (v := 1) eX5_isTakenAlready_33 (by decide) ?_
          refine r_goto C eX5_isTakenAlready_34 ?_
          obtain rfl := Option.some.inj (show some (1 : Int32) = some _ from hf)
          exact hret _ _ _ eX5_isTakenAlready_38 zB1
theorem eX5_readNumber_0 : zd 1 cX5_readNumber 0 1 (.aload_n 1) := ⟨by decide +kernel, rfl⟩
theorem eX5_readNumber_1 : zd 1 cX5_readNumber 1 2 (.aload_n 0) := ⟨by decide +kernel, rfl⟩
theorem eX5_readNumber_2 : zd 3 cX5_readNumber 2 5 (.getfield 46) := ⟨by decide +kernel, rfl⟩
theorem eX5_readNumber_5 : zd 3 cX5_readNumber 5 8 (.invokevirtual 58) := ⟨by decide +kernel, rfl⟩
theorem eX5_readNumber_8 : zd 2 cX5_readNumber 8 10 (.istore 4) := ⟨by decide +kernel, rfl⟩
theorem eX5_readNumber_10 : zd 1 cX5_readNumber 10 11 (.aload_n 1) := ⟨by decide +kernel, rfl⟩
theorem eX5_readNumber_11 : zd 2 cX5_readNumber 11 13 (.iload 4) := ⟨by decide +kernel, rfl⟩
theorem eX5_readNumber_13 : zd 3 cX5_readNumber 13 16 (.invokevirtual 91) := ⟨by decide +kernel, rfl⟩
theorem eX5_readNumber_16 : zd 2 cX5_readNumber 16 18 (.istore 5) := ⟨by decide +kernel, rfl⟩
theorem eX5_readNumber_18 : zd 2 cX5_readNumber 18 20 (.iload 5) := ⟨by decide +kernel, rfl⟩
theorem eX5_readNumber_20 : zd 2 cX5_readNumber 20 22 (.iload 4) := ⟨by decide +kernel, rfl⟩
theorem eX5_readNumber_22 : zdi cX5_readNumber 22 25 33 (.if_icmp .ne) := ⟨11, by decide +kernel, rfl, by decide⟩
theorem eX5_readNumber_25 : zd 1 cX5_readNumber 25 26 (.aload_n 0) := ⟨by decide +kernel, rfl⟩
theorem eX5_readNumber_26 : zd 1 cX5_readNumber 26 27 (.iconst 1) := ⟨by decide +kernel, rfl⟩
theorem eX5_readNumber_27 : zd 2 cX5_readNumber 27 29 (.iload 4) := ⟨by decide +kernel, rfl⟩
theorem eX5_readNumber_29 : zd 3 cX5_readNumber 29 32 (.invokevirtual 74) := ⟨by decide +kernel, rfl⟩
theorem eX5_readNumber_32 : zd 1 cX5_readNumber 32 33 (.return_) := ⟨by decide +kernel, rfl⟩
theorem eX5_readNumber_33 : zd 1 cX5_readNumber 33 34 (.iconst 0) := ⟨by decide +kernel, rfl⟩
theorem eX5_readNumber_34 : zd 2 cX5_readNumber 34 36 (.istore 6) := ⟨by decide +kernel, rfl⟩
theorem eX5_readNumber_36 : zd 2 cX5_readNumber 36 38 (.iload 4) := ⟨by decide +kernel, rfl⟩
theorem eX5_readNumber_38 : zd 2 cX5_readNumber 38 40 (.istore 7) := ⟨by decide +kernel, rfl⟩
theorem eX5_readNumber_40 : zd 2 cX5_readNumber 40 42 (.iload 7) := ⟨by decide +kernel, rfl⟩
theorem eX5_readNumber_42 : zd 2 cX5_readNumber 42 44 (.iload 5) := ⟨by decide +kernel, rfl⟩
theorem eX5_readNumber_44 : zdi cX5_readNumber 44 47 79 (.if_icmp .ge) := ⟨35, by decide +kernel, rfl, by decide⟩
theorem eX5_readNumber_47 : zd 2 cX5_readNumber 47 49 (.iload 7) := ⟨by decide +kernel, rfl⟩
theorem eX5_readNumber_49 : zd 2 cX5_readNumber 49 51 (.iload 4) := ⟨by decide +kernel, rfl⟩
theorem eX5_readNumber_51 : zd 1 cX5_readNumber 51 52 (.iconst 4) := ⟨by decide +kernel, rfl⟩
theorem eX5_readNumber_52 : zd 1 cX5_readNumber 52 53 (.iadd) := ⟨by decide +kernel, rfl⟩
theorem eX5_readNumber_53 : zdi cX5_readNumber 53 56 79 (.if_icmp .ge) := ⟨26, by decide +kernel, rfl, by decide⟩
theorem eX5_readNumber_56 : zd 2 cX5_readNumber 56 58 (.iload 6) := ⟨by decide +kernel, rfl⟩
theorem eX5_readNumber_58 : zd 2 cX5_readNumber 58 60 (.bipush 10) := ⟨by decide +kernel, rfl⟩
theorem eX5_readNumber_60 : zd 1 cX5_readNumber 60 61 (.imul) := ⟨by decide +kernel, rfl⟩
theorem eX5_readNumber_61 : zd 1 cX5_readNumber 61 62 (.aload_n 1) := ⟨by decide +kernel, rfl⟩
theorem eX5_readNumber_62 : zd 2 cX5_readNumber 62 64 (.iload 7) := ⟨by decide +kernel, rfl⟩
theorem eX5_readNumber_64 : zd 3 cX5_readNumber 64 67 (.invokevirtual 94) := ⟨by decide +kernel, rfl⟩
theorem eX5_readNumber_67 : zd 1 cX5_readNumber 67 68 (.iadd) := ⟨by decide +kernel, rfl⟩
theorem eX5_readNumber_68 : zd 2 cX5_readNumber 68 70 (.bipush 48) := ⟨by decide +kernel, rfl⟩
theorem eX5_readNumber_70 : zd 1 cX5_readNumber 70 71 (.isub) := ⟨by decide +kernel, rfl⟩
theorem eX5_readNumber_71 : zd 2 cX5_readNumber 71 73 (.istore 6) := ⟨by decide +kernel, rfl⟩
theorem eX5_readNumber_73 : zd 3 cX5_readNumber 73 76 (.iinc 7 1) := ⟨by decide +kernel, rfl⟩
theorem eX5_readNumber_76 : zdi cX5_readNumber 76 79 40 (.goto) := ⟨(-36), by decide +kernel, rfl, by decide⟩
theorem eX5_readNumber_79 : zd 2 cX5_readNumber 79 81 (.iload 5) := ⟨by decide +kernel, rfl⟩
theorem eX5_readNumber_81 : zd 2 cX5_readNumber 81 83 (.iload 4) := ⟨by decide +kernel, rfl⟩
theorem eX5_readNumber_83 : zd 1 cX5_readNumber 83 84 (.isub) := ⟨by decide +kernel, rfl⟩
theorem eX5_readNumber_84 : zd 1 cX5_readNumber 84 85 (.iconst 4) := ⟨by decide +kernel, rfl⟩
theorem eX5_readNumber_85 : zdi cX5_readNumber 85 88 99 (.if_icmp .gt) := ⟨14, by decide +kernel, rfl, by decide⟩
theorem eX5_readNumber_88 : zd 1 cX5_readNumber 88 89 (.aload_n 0) := ⟨by decide +kernel, rfl⟩
theorem eX5_readNumber_89 : zd 1 cX5_readNumber 89 90 (.iload_n 2) := ⟨by decide +kernel, rfl⟩
theorem eX5_readNumber_90 : zd 1 cX5_readNumber 90 91 (.iload_n 3) := ⟨by decide +kernel, rfl⟩
theorem eX5_readNumber_91 : zd 2 cX5_readNumber 91 93 (.iload 6) := ⟨by decide +kernel, rfl⟩
theorem eX5_readNumber_93 : zd 3 cX5_readNumber 93 96 (.invokevirtual 97) := ⟨by decide +kernel, rfl⟩
theorem eX5_readNumber_96 : zdi cX5_readNumber 96 99 109 (.ifCond .eq) := ⟨13, by decide +kernel, rfl, by decide⟩
theorem eX5_readNumber_99 : zd 1 cX5_readNumber 99 100 (.aload_n 0) := ⟨by decide +kernel, rfl⟩
theorem eX5_readNumber_100 : zd 1 cX5_readNumber 100 101 (.iconst 2) := ⟨by decide +kernel, rfl⟩
theorem eX5_readNumber_101 : zd 2 cX5_readNumber 101 103 (.iload 4) := ⟨by decide +kernel, rfl⟩
theorem eX5_readNumber_103 : zd 3 cX5_readNumber 103 106 (.invokevirtual 74) := ⟨by decide +kernel, rfl⟩
theorem eX5_readNumber_106 : zdi cX5_readNumber 106 109 147 (.goto) := ⟨41, by decide +kernel, rfl, by decide⟩
theorem eX5_readNumber_109 : zd 1 cX5_readNumber 109 110 (.iload_n 3) := ⟨by decide +kernel, rfl⟩
theorem eX5_readNumber_110 : zdi cX5_readNumber 110 113 133 (.ifCond .ne) := ⟨23, by decide +kernel, rfl, by decide⟩
theorem eX5_readNumber_113 : zd 1 cX5_readNumber 113 114 (.aload_n 0) := ⟨by decide +kernel, rfl⟩
theorem eX5_readNumber_114 : zd 1 cX5_readNumber 114 115 (.iload_n 2) := ⟨by decide +kernel, rfl⟩
theorem eX5_readNumber_115 : zd 2 cX5_readNumber 115 117 (.iload 6) := ⟨by decide +kernel, rfl⟩
theorem eX5_readNumber_117 : zd 3 cX5_readNumber 117 120 (.invokevirtual 101) := ⟨by decide +kernel, rfl⟩
theorem eX5_readNumber_120 : zdi cX5_readNumber 120 123 133 (.ifCond .eq) := ⟨13, by decide +kernel, rfl, by decide⟩
theorem eX5_readNumber_123 : zd 1 cX5_readNumber 123 124 (.aload_n 0) := ⟨by decide +kernel, rfl⟩
theorem eX5_readNumber_124 : zd 1 cX5_readNumber 124 125 (.iconst 4) := ⟨by decide +kernel, rfl⟩
theorem eX5_readNumber_125 : zd 2 cX5_readNumber 125 127 (.iload 4) := ⟨by decide +kernel, rfl⟩
theorem eX5_readNumber_127 : zd 3 cX5_readNumber 127 130 (.invokevirtual 74) := ⟨by decide +kernel, rfl⟩
theorem eX5_readNumber_130 : zdi cX5_readNumber 130 133 147 (.goto) := ⟨17, by decide +kernel, rfl, by decide⟩
theorem eX5_readNumber_133 : zd 1 cX5_readNumber 133 134 (.aload_n 0) := ⟨by decide +kernel, rfl⟩
theorem eX5_readNumber_134 : zd 3 cX5_readNumber 134 137 (.getfield 36) := ⟨by decide +kernel, rfl⟩
theorem eX5_readNumber_137 : zd 1 cX5_readNumber 137 138 (.iload_n 3) := ⟨by decide +kernel, rfl⟩
theorem eX5_readNumber_138 : zd 2 cX5_readNumber 138 140 (.iload 6) := ⟨by decide +kernel, rfl⟩
theorem eX5_readNumber_140 : zd 1 cX5_readNumber 140 141 (.iastore) := ⟨by decide +kernel, rfl⟩
theorem eX5_readNumber_141 : zd 1 cX5_readNumber 141 142 (.aload_n 0) := ⟨by decide +kernel, rfl⟩
theorem eX5_readNumber_142 : zd 2 cX5_readNumber 142 144 (.iload 5) := ⟨by decide +kernel, rfl⟩
theorem eX5_readNumber_144 : zd 3 cX5_readNumber 144 147 (.putfield 46) := ⟨by decide +kernel, rfl⟩
theorem eX5_readNumber_147 : zd 1 cX5_readNumber 147 148 (.return_) := ⟨by decide +kernel, rfl⟩
theorem FX5_46 : zlF RX5 46 5 7 := ⟨(RX5, TX5, 8), rfl, by decide, q171, zin5⟩
theorem PX5_46 : zlP RX5 46 5 7 .int := ⟨(RX5, TX5, 8), tyX5, rfl, by decide, q171, zin5, tyX5_ok, nmX5, rfl, by decide +kernel⟩
theorem MX5_58 : zlV RX5 58 yX8_behindBlanks cX8_behindBlanks 3 ((Option.some FieldType.int)) 1 := ⟨q443, q444, q445, q2, q446, by decide, by decide, by decide +kernel⟩
theorem MX5_74 : zlV RX5 74 yX5_fail cX5_fail 3 (none) 2 := ⟨q535, q537, qs2, q3, q538, by decide, by decide, by decide +kernel⟩
theorem MX5_91 : zlV RX5 91 yX8_behindFigures cX8_behindFigures 3 ((Option.some FieldType.int)) 1 := ⟨q547, q548, q549, q2, q550, by decide, by decide, by decide +kernel⟩
theorem MX5_94 : zlV RX5 94 yX8_byteAt cX8_byteAt 2 ((Option.some FieldType.int)) 1 := ⟨q554, q448, q449, q2, q450, by decide, by decide, by decide +kernel⟩
theorem MX5_97 : zlV RX5 97 yX5_isOutOfBounds cX5_isOutOfBounds 5 ((Option.some FieldType.boolean)) 3 := ⟨q555, q557, qs4, q3, q558, by decide, by decide, by decide +kernel⟩
theorem MX5_101 : zlV RX5 101 yX5_isTakenAlready cX5_isTakenAlready 3 ((Option.some FieldType.boolean)) 2 := ⟨q563, q565, qs5, q3, q566, by decide, by decide, by decide +kernel⟩
noncomputable def fB_Re_readNumber_40 (v1 : tTe) (r1 : Int32) (r2 : Int32) (ih : (Int32 × Int32) → Option (Int32 × Int32)) (s5 : Int32 × Int32) : Option (Int32 × Int32) := (if r2 ≤ (s5.2) then (some ((s5.1), (s5.2))) else (if (r1 + 4) ≤ (s5.2) then (some ((s5.1), (s5.2))) else (Option.bind (f_Te_byteAt v1 (s5.2)) (fun (r12 : Int32) => (zlet ((((s5.1) * 10) + r12) - 48) (fun (z13 : Int32) => (ih (z13, ((s5.2) + 1)))))))))
noncomputable def f_Re_readNumber (v0 : tRe) (v1 : tTe) (p1 : Int32) (p2 : Int32) : Option ((Nat → Int32) × (Nat → Int32)) := (Option.bind (f_Te_behindBlanks v1 ((gRe_ints v0) 7)) (fun (r1 : Int32) => (Option.bind (f_Te_behindFigures v1 r1) (fun (r2 : Int32) => (if r2 = r1 then (zlet (f_Re_fail v0 1 r1) (fun (r4 : (Nat → Int32)) => (some (r4, (gRe_row v0))))) else (Option.bind (lp (fB_Re_readNumber_40 v1 r1 r2) LF (0, r1)) (fun (q6 : Int32 × Int32) => (if 4 < (r2 - r1) then (zlet (f_Re_fail v0 2 r1) (fun (r15 : (Nat → Int32)) => (some (r15, (gRe_row v0))))) else (Option.bind (f_Re_isOutOfBounds v0 p1 p2 (q6.1)) (fun (r16 : Int32) => (if r16 = 0 then (if p2 = 0 then (Option.bind (f_Re_isTakenAlready v0 p1 (q6.1)) (fun (r20 : Int32) => (if r20 = 0 then (if inb p2 3 = true then (some ((upd (gRe_ints v0) 7 r2), (upd (gRe_row v0) (ix p2) (q6.1)))) else none) else (zlet (f_Re_fail v0 4 r1) (fun (r24 : (Nat → Int32)) => (some (r24, (gRe_row v0)))))))) else (if inb p2 3 = true then (some ((upd (gRe_ints v0) 7 r2), (upd (gRe_row v0) (ix p2) (q6.1)))) else none)) else (zlet (f_Re_fail v0 2 r1) (fun (r26 : (Nat → Int32)) => (some (r26, (gRe_row v0))))))))))))))))
abbrev rm_Re_readNumber : Room := { frames := 2, cells := 0, slots := 0, locals := 44 }
set_option maxHeartbeats 4000000 in
set_option maxRecDepth 100000 in
theorem c_Re_readNumber (l : Launch) (g : zGl) (a0 : Nat → Nat) (o0 : Nat) (v0 : tRe) (a1 : Nat → Nat) (o1 : Nat) (v1 : tTe) (p1 : Int32) (p2 : Int32) (out : (Nat → Int32) × (Nat → Int32)) (hf : f_Re_readNumber v0 v1 p1 p2 = some out) : zMv l yX5_readNumber cX5_readNumber 8 rm_Re_readNumber g [.ref (a0 o0), .ref (a1 o1), .int p1, .int p2] (W_Re g a0 o0 (gRe_ints v0) (gQu_ints (gRe_quayDraft v0)) (gQu_places (gRe_quayDraft v0)) (gQu_strengths (gRe_quayDraft v0)) (gPl_ints (gRe_planDraft v0)) (gPl_seconds (gRe_planDraft v0)) (gPl_engines (gRe_planDraft v0)) (gPl_wheels (gRe_planDraft v0)) (gTi_ints (gRe_tideDraft v0)) (gTi_heights (gRe_tideDraft v0)) (gRe_times v0) (gRe_row v0) ++ W_Te g a1 o1 (gTe_ints v1) (gTe_bytes v1))  (W_Re g a0 o0 (out.1) (gQu_ints (gRe_quayDraft v0)) (gQu_places (gRe_quayDraft v0)) (gQu_strengths (gRe_quayDraft v0)) (gPl_ints (gRe_planDraft v0)) (gPl_seconds (gRe_planDraft v0)) (gPl_engines (gRe_planDraft v0)) (gPl_wheels (gRe_planDraft v0)) (gTi_ints (gRe_tideDraft v0)) (gTi_heights (gRe_tideDraft v0)) (gRe_times v0) (out.2) ++ W_Te g a1 o1 (gTe_ints v1) (gTe_bytes v1)) := by
  refine zMv_of (lv := [(0, .ref (a0 o0)), (1, .ref (a1 o1)), (2, .int p1), (3, .int p2)]) (by decide) (Nat.le_of_ble_eq_true rfl) rfl (fun x hl hg C hret => ?_)
  subst hl; subst hg
  rw [f_Re_readNumber] at hf
  refine r_aload_n C eX5_readNumber_0 1 rfl rfl ?_
  refine r_aload_n C eX5_readNumber_1 0 rfl rfl ?_
  refine r_get (v := .int ((gRe_ints v0) 7)) C eX5_readNumber_2 FX5_46 0 rfl rfl ?_
  obtain ⟨r1, hr1, hf⟩ := zbind hf
  refine r_V_i (ws' := W_Re (z_g x) a0 o0 (gRe_ints v0) (gQu_ints (gRe_quayDraft v0)) (gQu_places (gRe_quayDraft v0)) (gQu_strengths (gRe_quayDraft v0)) (gPl_ints (gRe_planDraft v0)) (gPl_seconds (gRe_planDraft v0)) (gPl_engines (gRe_planDraft v0)) (gPl_wheels (gRe_planDraft v0)) (gTi_ints (gRe_tideDraft v0)) (gTi_heights (gRe_tideDraft v0)) (gRe_times v0) (gRe_row v0) ++ W_Te (z_g x) a1 o1 (gTe_ints v1) (gTe_bytes v1)) C (c_Te_behindBlanks (z_l x) (z_g x) a1 o1 v1 ((gRe_ints v0) 7) r1 hr1) eX5_readNumber_5 MX5_58 ⟨0, 8, _, _, rfl, rfl, rfl⟩ [12, 13] rfl rfl rfl rfl [0, 1, 2, 3, 4, 5, 6, 7, 8, 9, 10, 11] rfl ⟨rfl, rfl, rfl, rfl, rfl, rfl, rfl, rfl, rfl, rfl, rfl, rfl, trivial⟩ 14 rfl rfl rfl rfl rfl rfl ?_
  refine r_istore C [(4, .int r1), (0, .ref (a0 o0)), (1, .ref (a1 o1)), (2, .int p1), (3, .int p2)] eX5_readNumber_8 (by decide) rfl ?_
  refine r_aload_n C eX5_readNumber_10 2 rfl rfl ?_
  refine r_iload C eX5_readNumber_11 0 rfl ?_
  obtain ⟨r2, hr2, hf⟩ := zbind hf
  refine r_V_i (ws' := W_Re (z_g x) a0 o0 (gRe_ints v0) (gQu_ints (gRe_quayDraft v0)) (gQu_places (gRe_quayDraft v0)) (gQu_strengths (gRe_quayDraft v0)) (gPl_ints (gRe_planDraft v0)) (gPl_seconds (gRe_planDraft v0)) (gPl_engines (gRe_planDraft v0)) (gPl_wheels (gRe_planDraft v0)) (gTi_ints (gRe_tideDraft v0)) (gTi_heights (gRe_tideDraft v0)) (gRe_times v0) (gRe_row v0) ++ W_Te (z_g x) a1 o1 (gTe_ints v1) (gTe_bytes v1)) C (c_Te_behindFigures (z_l x) (z_g x) a1 o1 v1 r1 r2 hr2) eX5_readNumber_13 MX5_91 ⟨0, 8, _, _, rfl, rfl, rfl⟩ [12, 13] rfl rfl rfl rfl [0, 1, 2, 3, 4, 5, 6, 7, 8, 9, 10, 11] rfl ⟨rfl, rfl, rfl, rfl, rfl, rfl, rfl, rfl, rfl, rfl, rfl, rfl, trivial⟩ 14 rfl rfl rfl rfl rfl rfl ?_
  refine r_istore C [(5, .int r2), (4, .int r1), (0, .ref (a0 o0)), (1, .ref (a1 o1)), (2, .int p1), (3, .int p2)] eX5_readNumber_16 (by decide) rfl ?_
  refine r_iload C eX5_readNumber_18 0 rfl ?_
  refine r_iload C eX5_readNumber_20 1 rfl ?_
  refine r_icmp_ne C eX5_readNumber_22 (fun c3 => ?_) (fun c3 => ?_)
  · rw [if_neg c3] at hf
    refine r_iconst C (v := 0) eX5_readNumber_33 (by decide) ?_
    refine r_istore C [(6, .int 0), (5, .int r2), (4, .int r1), (0, .ref (a0 o0)), (1, .ref (a1 o1)), (2, .int p1), (3, .int p2)] eX5_readNumber_34 (by decide) rfl ?_
    refine r_iload C eX5_readNumber_36 2 rfl ?_
    refine r_istore C [(7, .int r1), (6, .int 0), (5, .int r2), (4, .int r1), (0, .ref (a0 o0)), (1, .ref (a1 o1)), (2, .int p1), (3, .int p2)] eX5_readNumber_38 (by decide) rfl ?_
    obtain ⟨q6, h7, hf⟩ := zbind hf
    have J8 : vV x 8 0 0 (W_Re (z_g x) a0 o0 (gRe_ints v0) (gQu_ints (gRe_quayDraft v0)) (gQu_places (gRe_quayDraft v0)) (gQu_strengths (gRe_quayDraft v0)) (gPl_ints (gRe_planDraft v0)) (gPl_seconds (gRe_planDraft v0)) (gPl_engines (gRe_planDraft v0)) (gPl_wheels (gRe_planDraft v0)) (gTi_ints (gRe_tideDraft v0)) (gTi_heights (gRe_tideDraft v0)) (gRe_times v0) (gRe_row v0) ++ W_Te (z_g x) a1 o1 (gTe_ints v1) (gTe_bytes v1)) 79 [(0, .ref (a0 o0)), (2, .int p1), (3, .int p2), (4, .int r1), (5, .int r2), (6, .int (q6.1))] [] := by
      refine r_iload C eX5_readNumber_79 4 rfl ?_
      refine r_iload C eX5_readNumber_81 3 rfl ?_
      refine r_isub C eX5_readNumber_83 ?_
      refine r_iconst C (v := 4) eX5_readNumber_84 (by decide) ?_
      refine r_icmp_gt C eX5_readNumber_85 (fun c14 => ?_) (fun c14 => ?_)
      · rw [if_pos c14] at hf
        refine r_aload_n C eX5_readNumber_99 0 rfl rfl ?_
        refine r_iconst C (v := 2) eX5_readNumber_100 (by decide) ?_
        refine r_iload C eX5_readNumber_101 3 rfl ?_
        obtain ⟨r15, hr15, hf⟩ := zlet_of hf
        refine r_V_v (ws' := W_Re (z_g x) a0 o0 r15 (gQu_ints (gRe_quayDraft v0)) (gQu_places (gRe_quayDraft v0)) (gQu_strengths (gRe_quayDraft v0)) (gPl_ints (gRe_planDraft v0)) (gPl_seconds (gRe_planDraft v0)) (gPl_engines (gRe_planDraft v0)) (gPl_wheels (gRe_planDraft v0)) (gTi_ints (gRe_tideDraft v0)) (gTi_heights (gRe_tideDraft v0)) (gRe_times v0) (gRe_row v0) ++ W_Te (z_g x) a1 o1 (gTe_ints v1) (gTe_bytes v1)) C (c_Re_fail (z_l x) (z_g x) a0 o0 v0 2 r1 r15 hr15) eX5_readNumber_103 MX5_74 ⟨0, 5, _, _, rfl, rfl, rfl⟩ [0, 1, 2, 3, 4, 5, 6, 7, 8, 9, 10, 11] rfl rfl rfl rfl [12, 13] rfl ⟨rfl, rfl, trivial⟩ 14 rfl rfl rfl rfl rfl rfl ?_
        refine r_goto C eX5_readNumber_106 ?_
        obtain rfl := Option.some.inj (show some ((r15, (gRe_row v0)) : (Nat → Int32) × (Nat → Int32)) = some _ from hf)
        exact hret _ _ _ eX5_readNumber_147
      · rw [if_neg c14] at hf
        refine r_aload_n C eX5_readNumber_88 0 rfl rfl ?_
        refine r_iload_n C eX5_readNumber_89 1 rfl rfl ?_
        refine r_iload_n C eX5_readNumber_90 2 rfl rfl ?_
        refine r_iload C eX5_readNumber_91 5 rfl ?_
        obtain ⟨r16, hr16, hf⟩ := zbind hf
        refine r_V_z (ws' := W_Re (z_g x) a0 o0 (gRe_ints v0) (gQu_ints (gRe_quayDraft v0)) (gQu_places (gRe_quayDraft v0)) (gQu_strengths (gRe_quayDraft v0)) (gPl_ints (gRe_planDraft v0)) (gPl_seconds (gRe_planDraft v0)) (gPl_engines (gRe_planDraft v0)) (gPl_wheels (gRe_planDraft v0)) (gTi_ints (gRe_tideDraft v0)) (gTi_heights (gRe_tideDraft v0)) (gRe_times v0) (gRe_row v0) ++ W_Te (z_g x) a1 o1 (gTe_ints v1) (gTe_bytes v1)) C (c_Re_isOutOfBounds (z_l x) (z_g x) a0 o0 v0 p1 p2 (q6.1) r16 hr16) eX5_readNumber_93 MX5_97 ⟨0, 5, _, _, rfl, rfl, rfl⟩ [0, 1, 2, 3, 4, 5, 6, 7, 8, 9, 10, 11] rfl rfl rfl rfl [12, 13] rfl ⟨rfl, rfl, trivial⟩ 14 rfl rfl rfl rfl rfl rfl (fun zb17 => ?_)
        refine r_if_eq C eX5_readNumber_96 (fun c18 => ?_) (fun c18 => ?_)
        · rw [if_pos c18] at hf
          refine r_iload_n C eX5_readNumber_109 2 rfl rfl ?_
          refine r_if_ne C eX5_readNumber_110 (fun c19 => ?_) (fun c19 => ?_)
          · rw [if_neg c19] at hf
            refine r_aload_n C eX5_readNumber_133 0 rfl rfl ?_
            refine r_get (v := .ref (a0 (o0 + 2))) C eX5_readNumber_134 FX5_36 0 rfl rfl ?_
            refine r_iload_n C eX5_readNumber_137 2 rfl rfl ?_
            refine r_iload C eX5_readNumber_138 5 rfl ?_
            obtain ⟨hb25, hf⟩ := zchk hf
            refine r_iast (ws' := W_Re (z_g x) a0 o0 (gRe_ints v0) (gQu_ints (gRe_quayDraft v0)) (gQu_places (gRe_quayDraft v0)) (gQu_strengths (gRe_quayDraft v0)) (gPl_ints (gRe_planDraft v0)) (gPl_seconds (gRe_planDraft v0)) (gPl_engines (gRe_planDraft v0)) (gPl_wheels (gRe_planDraft v0)) (gTi_ints (gRe_tideDraft v0)) (gTi_heights (gRe_tideDraft v0)) (gRe_times v0) (upd (gRe_row v0) (ix p2) (q6.1)) ++ W_Te (z_g x) a1 o1 (gTe_ints v1) (gTe_bytes v1)) C eX5_readNumber_140 2 rfl (inb_in hb25) rfl ?_
            refine r_aload_n C eX5_readNumber_141 0 rfl rfl ?_
            refine r_iload C eX5_readNumber_142 4 rfl ?_
            refine r_put (ws' := W_Re (z_g x) a0 o0 (upd (gRe_ints v0) 7 r2) (gQu_ints (gRe_quayDraft v0)) (gQu_places (gRe_quayDraft v0)) (gQu_strengths (gRe_quayDraft v0)) (gPl_ints (gRe_planDraft v0)) (gPl_seconds (gRe_planDraft v0)) (gPl_engines (gRe_planDraft v0)) (gPl_wheels (gRe_planDraft v0)) (gTi_ints (gRe_tideDraft v0)) (gTi_heights (gRe_tideDraft v0)) (gRe_times v0) (upd (gRe_row v0) (ix p2) (q6.1)) ++ W_Te (z_g x) a1 o1 (gTe_ints v1) (gTe_bytes v1)) C eX5_readNumber_144 PX5_46 0 rfl rfl rfl (Nat.le_of_ble_eq_true rfl) rfl ?_
            obtain rfl := Option.some.inj (show some (((upd (gRe_ints v0) 7 r2), (upd (gRe_row v0) (ix p2) (q6.1))) : (Nat → Int32) × (Nat → Int32)) = some _ from hf)
            exact hret _ _ _ eX5_readNumber_147
          · rw [if_pos c19] at hf
            refine r_aload_n C eX5_readNumber_113 0 rfl rfl ?_
            refine r_iload_n C eX5_readNumber_114 1 rfl rfl ?_
            refine r_iload C eX5_readNumber_115 5 rfl ?_
            obtain ⟨r20, hr20, hf⟩ := zbind hf
            refine r_V_z (ws' := W_Re (z_g x) a0 o0 (gRe_ints v0) (gQu_ints (gRe_quayDraft v0)) (gQu_places (gRe_quayDraft v0)) (gQu_strengths (gRe_quayDraft v0)) (gPl_ints (gRe_planDraft v0)) (gPl_seconds (gRe_planDraft v0)) (gPl_engines (gRe_planDraft v0)) (gPl_wheels (gRe_planDraft v0)) (gTi_ints (gRe_tideDraft v0)) (gTi_heights (gRe_tideDraft v0)) (gRe_times v0) (gRe_row v0) ++ W_Te (z_g x) a1 o1 (gTe_ints v1) (gTe_bytes v1)) C (c_Re_isTakenAlready (z_l x) (z_g x) a0 o0 v0 p1 (q6.1) r20 hr20) eX5_readNumber_117 MX5_101 ⟨0, 5, _, _, rfl, rfl, rfl⟩ [0, 1, 2, 3, 4, 5, 6, 7, 8, 9, 10, 11] rfl rfl rfl rfl [12, 13] rfl ⟨rfl, rfl, trivial⟩ 14 rfl rfl rfl rfl rfl rfl (fun zb21 => ?_)
            refine r_if_eq C eX5_readNumber_120 (fun c22 => ?_) (fun c22 => ?_)
            · rw [if_pos c22] at hf
              refine r_aload_n C eX5_readNumber_133 0 rfl rfl ?_
              refine r_get (v := .ref (a0 (o0 + 2))) C eX5_readNumber_134 FX5_36 0 rfl rfl ?_
              refine r_iload_n C eX5_readNumber_137 2 rfl rfl ?_
              refine r_iload C eX5_readNumber_138 5 rfl ?_
              obtain ⟨hb23, hf⟩ := zchk hf
              refine r_iast (ws' := W_Re (z_g x) a0 o0 (gRe_ints v0) (gQu_ints (gRe_quayDraft v0)) (gQu_places (gRe_quayDraft v0)) (gQu_strengths (gRe_quayDraft v0)) (gPl_ints (gRe_planDraft v0)) (gPl_seconds (gRe_planDraft v0)) (gPl_engines (gRe_planDraft v0)) (gPl_wheels (gRe_planDraft v0)) (gTi_ints (gRe_tideDraft v0)) (gTi_heights (gRe_tideDraft v0)) (gRe_times v0) (upd (gRe_row v0) (ix p2) (q6.1)) ++ W_Te (z_g x) a1 o1 (gTe_ints v1) (gTe_bytes v1)) C eX5_readNumber_140 2 rfl (inb_in hb23) rfl ?_
              refine r_aload_n C eX5_readNumber_141 0 rfl rfl ?_
              refine r_iload C eX5_readNumber_142 4 rfl ?_
              refine r_put (ws' := W_Re (z_g x) a0 o0 (upd (gRe_ints v0) 7 r2) (gQu_ints (gRe_quayDraft v0)) (gQu_places (gRe_quayDraft v0)) (gQu_strengths (gRe_quayDraft v0)) (gPl_ints (gRe_planDraft v0)) (gPl_seconds (gRe_planDraft v0)) (gPl_engines (gRe_planDraft v0)) (gPl_wheels (gRe_planDraft v0)) (gTi_ints (gRe_tideDraft v0)) (gTi_heights (gRe_tideDraft v0)) (gRe_times v0) (upd (gRe_row v0) (ix p2) (q6.1)) ++ W_Te (z_g x) a1 o1 (gTe_ints v1) (gTe_bytes v1)) C eX5_readNumber_144 PX5_46 0 rfl rfl rfl (Nat.le_of_ble_eq_true rfl) rfl ?_
              obtain rfl := Option.some.inj (show some (((upd (gRe_ints v0) 7 r2), (upd (gRe_row v0) (ix p2) (q6.1))) : (Nat → Int32) × (Nat → Int32)) = some _ from hf)
              exact hret _ _ _ eX5_readNumber_147
            · rw [if_neg c22] at hf
              refine r_aload_n C eX5_readNumber_123 0 rfl rfl ?_
              refine r_iconst C (v := 4) eX5_readNumber_124 (by decide) ?_
              refine r_iload C eX5_readNumber_125 3 rfl ?_
              obtain ⟨r24, hr24, hf⟩ := zlet_of hf
              refine r_V_v (ws' := W_Re (z_g x) a0 o0 r24 (gQu_ints (gRe_quayDraft v0)) (gQu_places (gRe_quayDraft v0)) (gQu_strengths (gRe_quayDraft v0)) (gPl_ints (gRe_planDraft v0)) (gPl_seconds (gRe_planDraft v0)) (gPl_engines (gRe_planDraft v0)) (gPl_wheels (gRe_planDraft v0)) (gTi_ints (gRe_tideDraft v0)) (gTi_heights (gRe_tideDraft v0)) (gRe_times v0) (gRe_row v0) ++ W_Te (z_g x) a1 o1 (gTe_ints v1) (gTe_bytes v1)) C (c_Re_fail (z_l x) (z_g x) a0 o0 v0 4 r1 r24 hr24) eX5_readNumber_127 MX5_74 ⟨0, 5, _, _, rfl, rfl, rfl⟩ [0, 1, 2, 3, 4, 5, 6, 7, 8, 9, 10, 11] rfl rfl rfl rfl [12, 13] rfl ⟨rfl, rfl, trivial⟩ 14 rfl rfl rfl rfl rfl rfl ?_
              refine r_goto C eX5_readNumber_130 ?_
              obtain rfl := Option.some.inj (show some ((r24, (gRe_row v0)) : (Nat → Int32) × (Nat → Int32)) = some _ from hf)
              exact hret _ _ _ eX5_readNumber_147
        · rw [if_neg c18] at hf
          refine r_aload_n C eX5_readNumber_99 0 rfl rfl ?_
          refine r_iconst C (v := 2) eX5_readNumber_100 (by decide) ?_
          refine r_iload C eX5_readNumber_101 3 rfl ?_
          obtain ⟨r26, hr26, hf⟩ := zlet_of hf
          refine r_V_v (ws' := W_Re (z_g x) a0 o0 r26 (gQu_ints (gRe_quayDraft v0)) (gQu_places (gRe_quayDraft v0)) (gQu_strengths (gRe_quayDraft v0)) (gPl_ints (gRe_planDraft v0)) (gPl_seconds (gRe_planDraft v0)) (gPl_engines (gRe_planDraft v0)) (gPl_wheels (gRe_planDraft v0)) (gTi_ints (gRe_tideDraft v0)) (gTi_heights (gRe_tideDraft v0)) (gRe_times v0) (gRe_row v0) ++ W_Te (z_g x) a1 o1 (gTe_ints v1) (gTe_bytes v1)) C (c_Re_fail (z_l x) (z_g x) a0 o0 v0 2 r1 r26 hr26) eX5_readNumber_103 MX5_74 ⟨0, 5, _, _, rfl, rfl, rfl⟩ [0, 1, 2, 3, 4, 5, 6, 7, 8, 9, 10, 11] rfl rfl rfl rfl [12, 13] rfl ⟨rfl, rfl, trivial⟩ 14 rfl rfl rfl rfl rfl rfl ?_
          refine r_goto C eX5_readNumber_106 ?_
          obtain rfl := Option.some.inj (show some ((r26, (gRe_row v0)) : (Nat → Int32) × (Nat → Int32)) = some _ from hf)
          exact hret _ _ _ eX5_readNumber_147
    have L9 : ∀ (nL9 : Nat) (s5 : Int32 × Int32), lp (fB_Re_readNumber_40 v1 r1 r2) nL9 s5 = some q6 → vV x 8 0 0 (W_Re (z_g x) a0 o0 (gRe_ints v0) (gQu_ints (gRe_quayDraft v0)) (gQu_places (gRe_quayDraft v0)) (gQu_strengths (gRe_quayDraft v0)) (gPl_ints (gRe_planDraft v0)) (gPl_seconds (gRe_planDraft v0)) (gPl_engines (gRe_planDraft v0)) (gPl_wheels (gRe_planDraft v0)) (gTi_ints (gRe_tideDraft v0)) (gTi_heights (gRe_tideDraft v0)) (gRe_times v0) (gRe_row v0) ++ W_Te (z_g x) a1 o1 (gTe_ints v1) (gTe_bytes v1)) 40 [(0, .ref (a0 o0)), (1, .ref (a1 o1)), (2, .int p1), (3, .int p2), (4, .int r1), (5, .int r2), (6, .int (s5.1)), (7, .int (s5.2))] [] := by
      intro nL9
      induction nL9 with
      | zero => intro s5 hq; cases hq
      | succ nL9 ihL9 =>
        intro s5 hbL9
        rw [lp_succ, fB_Re_readNumber_40] at hbL9
        refine r_iload C eX5_readNumber_40 7 rfl ?_
        refine r_iload C eX5_readNumber_42 5 rfl ?_
        refine r_icmp_ge C eX5_readNumber_44 (fun c10 => ?_) (fun c10 => ?_)
        · rw [if_pos c10] at hbL9
          obtain rfl := Option.some.inj hbL9
          refine r_sub (lv' := [(0, .ref (a0 o0)), (2, .int p1), (3, .int p2), (4, .int r1), (5, .int r2), (6, .int (s5.1))]) [0, 2, 3, 4, 5, 6] rfl ?_
          exact J8
        · rw [if_neg c10] at hbL9
          refine r_iload C eX5_readNumber_47 7 rfl ?_
          refine r_iload C eX5_readNumber_49 4 rfl ?_
          refine r_iconst C (v := 4) eX5_readNumber_51 (by decide) ?_
          refine r_iadd C eX5_readNumber_52 ?_
          refine r_icmp_ge C eX5_readNumber_53 (fun c11 => ?_) (fun c11 => ?_)
          · rw [if_pos c11] at hbL9
            obtain rfl := Option.some.inj hbL9
            refine r_sub (lv' := [(0, .ref (a0 o0)), (2, .int p1), (3, .int p2), (4, .int r1), (5, .int r2), (6, .int (s5.1))]) [0, 2, 3, 4, 5, 6] rfl ?_
            exact J8
          · rw [if_neg c11] at hbL9
            refine r_iload C eX5_readNumber_56 6 rfl ?_
            refine r_bipush C (v := 10) eX5_readNumber_58 (by decide) ?_
            refine r_imul C eX5_readNumber_60 ?_
            refine r_aload_n C eX5_readNumber_61 1 rfl rfl ?_
            refine r_iload C eX5_readNumber_62 7 rfl ?_
            obtain ⟨r12, hr12, hbL9⟩ := zbind hbL9
            refine r_V_i (ws' := W_Re (z_g x) a0 o0 (gRe_ints v0) (gQu_ints (gRe_quayDraft v0)) (gQu_places (gRe_quayDraft v0)) (gQu_strengths (gRe_quayDraft v0)) (gPl_ints (gRe_planDraft v0)) (gPl_seconds (gRe_planDraft v0)) (gPl_engines (gRe_planDraft v0)) (gPl_wheels (gRe_planDraft v0)) (gTi_ints (gRe_tideDraft v0)) (gTi_heights (gRe_tideDraft v0)) (gRe_times v0) (gRe_row v0) ++ W_Te (z_g x) a1 o1 (gTe_ints v1) (gTe_bytes v1)) C (c_Te_byteAt (z_l x) (z_g x) a1 o1 v1 (s5.2) r12 hr12) eX5_readNumber_64 MX5_94 ⟨0, 8, _, _, rfl, rfl, rfl⟩ [12, 13] rfl rfl rfl rfl [0, 1, 2, 3, 4, 5, 6, 7, 8, 9, 10, 11] rfl ⟨rfl, rfl, rfl, rfl, rfl, rfl, rfl, rfl, rfl, rfl, rfl, rfl, trivial⟩ 14 rfl rfl rfl rfl rfl rfl ?_
            refine r_iadd C eX5_readNumber_67 ?_
            refine r_bipush C (v := 48) eX5_readNumber_68 (by decide) ?_
            refine r_isub C eX5_readNumber_70 ?_
            obtain ⟨z13, hz13, hbL9⟩ := zlet_of hbL9
            refine r_nami hz13 ?_
            refine r_istore C [(6, .int z13), (0, .ref (a0 o0)), (1, .ref (a1 o1)), (2, .int p1), (3, .int p2), (4, .int r1), (5, .int r2), (7, .int (s5.2))] eX5_readNumber_71 (by decide) rfl ?_
            refine r_iinc C (v := ((s5.2) + 1)) [(7, .int ((s5.2) + 1)), (6, .int z13), (0, .ref (a0 o0)), (1, .ref (a1 o1)), (2, .int p1), (3, .int p2), (4, .int r1), (5, .int r2)] eX5_readNumber_73 7 rfl rfl (by decide) rfl ?_
            refine r_goto C eX5_readNumber_76 ?_
            refine r_sub (lv' := [(0, .ref (a0 o0)), (1, .ref (a1 o1)), (2, .int p1), (3, .int p2), (4, .int r1), (5, .int r2), (6, .int z13), (7, .int ((s5.2) + 1))]) [2, 3, 4, 5, 6, 7, 1, 0] rfl ?_
            have hc := ihL9 (z13, ((s5.2) + 1)) hbL9
            exact hc
    refine r_sub (lv' := [(0, .ref (a0 o0)), (1, .ref (a1 o1)), (2, .int p1), (3, .int p2), (4, .int r1), (5, .int r2), (6, .int 0), (7, .int r1)]) [4, 5, 6, 7, 3, 2, 1, 0] rfl ?_
    have hc := L9 LF (0, r1) h7
    exact hc
  · rw [if_pos c3] at hf
    refine r_aload_n C eX5_readNumber_25 2 rfl rfl ?_
    refine r_iconst C (v := 1) eX5_readNumber_26 (by decide) ?_
    refine r_iload C eX5_readNumber_27 1 rfl ?_
    obtain ⟨r4, hr4, hf⟩ := zlet_of hf
    refine r_V_v (ws' := W_Re (z_g x) a0 o0 r4 (gQu_ints (gRe_quayDraft v0)) (gQu_places (gRe_quayDraft v0)) (gQu_strengths (gRe_quayDraft v0)) (gPl_ints (gRe_planDraft v0)) (gPl_seconds (gRe_planDraft v0)) (gPl_engines (gRe_planDraft v0)) (gPl_wheels (gRe_planDraft v0)) (gTi_ints (gRe_tideDraft v0)) (gTi_heights (gRe_tideDraft v0)) (gRe_times v0) (gRe_row v0) ++ W_Te (z_g x) a1 o1 (gTe_ints v1) (gTe_bytes v1)) C (c_Re_fail (z_l x) (z_g x) a0 o0 v0 1 r1 r4 hr4) eX5_readNumber_29 MX5_74 ⟨0, 5, _, _, rfl, rfl, rfl⟩ [0, 1, 2, 3, 4, 5, 6, 7, 8, 9, 10, 11] rfl rfl rfl rfl [12, 13] rfl ⟨rfl, rfl, trivial⟩ 14 rfl rfl rfl rfl rfl rfl ?_
    obtain rfl := Option.some.inj (show some ((r4, (gRe_row v0)) : (Nat → Int32) × (Nat → Int32)) = some _ from hf)
    exact hret _ _ _ eX5_readNumber_32
theorem eX5_store_0 : zd 1 cX5_store 0 1 (.iload_n 1) := ⟨by decide +kernel, rfl⟩
theorem eX5_store_1 : zd 1 cX5_store 1 2 (.iconst 1) := ⟨by decide +kernel, rfl⟩
theorem eX5_store_2 : zdi cX5_store 2 5 27 (.if_icmp .ne) := ⟨25, by decide +kernel, rfl, by decide⟩
theorem eX5_store_5 : zd 1 cX5_store 5 6 (.aload_n 0) := ⟨by decide +kernel, rfl⟩
theorem eX5_store_6 : zd 3 cX5_store 6 9 (.getfield 12) := ⟨by decide +kernel, rfl⟩
theorem eX5_store_9 : zd 1 cX5_store 9 10 (.aload_n 0) := ⟨by decide +kernel, rfl⟩
theorem eX5_store_10 : zd 3 cX5_store 10 13 (.getfield 36) := ⟨by decide +kernel, rfl⟩
theorem eX5_store_13 : zd 1 cX5_store 13 14 (.iconst 0) := ⟨by decide +kernel, rfl⟩
theorem eX5_store_14 : zd 1 cX5_store 14 15 (.iaload) := ⟨by decide +kernel, rfl⟩
theorem eX5_store_15 : zd 1 cX5_store 15 16 (.aload_n 0) := ⟨by decide +kernel, rfl⟩
theorem eX5_store_16 : zd 3 cX5_store 16 19 (.getfield 36) := ⟨by decide +kernel, rfl⟩
theorem eX5_store_19 : zd 1 cX5_store 19 20 (.iconst 1) := ⟨by decide +kernel, rfl⟩
theorem eX5_store_20 : zd 1 cX5_store 20 21 (.iaload) := ⟨by decide +kernel, rfl⟩
theorem eX5_store_21 : zd 3 cX5_store 21 24 (.invokevirtual 122) := ⟨by decide +kernel, rfl⟩
theorem eX5_store_24 : zdi cX5_store 24 27 124 (.goto) := ⟨100, by decide +kernel, rfl, by decide⟩
theorem eX5_store_27 : zd 1 cX5_store 27 28 (.iload_n 1) := ⟨by decide +kernel, rfl⟩
theorem eX5_store_28 : zd 2 cX5_store 28 30 (.bipush 9) := ⟨by decide +kernel, rfl⟩
theorem eX5_store_30 : zdi cX5_store 30 33 65 (.if_icmp .ne) := ⟨35, by decide +kernel, rfl, by decide⟩
theorem eX5_store_33 : zd 1 cX5_store 33 34 (.aload_n 0) := ⟨by decide +kernel, rfl⟩
theorem eX5_store_34 : zd 3 cX5_store 34 37 (.getfield 21) := ⟨by decide +kernel, rfl⟩
theorem eX5_store_37 : zd 1 cX5_store 37 38 (.aload_n 0) := ⟨by decide +kernel, rfl⟩
theorem eX5_store_38 : zd 3 cX5_store 38 41 (.getfield 36) := ⟨by decide +kernel, rfl⟩
theorem eX5_store_41 : zd 1 cX5_store 41 42 (.iconst 0) := ⟨by decide +kernel, rfl⟩
theorem eX5_store_42 : zd 1 cX5_store 42 43 (.iaload) := ⟨by decide +kernel, rfl⟩
theorem eX5_store_43 : zd 1 cX5_store 43 44 (.aload_n 0) := ⟨by decide +kernel, rfl⟩
theorem eX5_store_44 : zd 3 cX5_store 44 47 (.getfield 36) := ⟨by decide +kernel, rfl⟩
theorem eX5_store_47 : zd 1 cX5_store 47 48 (.iconst 1) := ⟨by decide +kernel, rfl⟩
theorem eX5_store_48 : zd 1 cX5_store 48 49 (.iaload) := ⟨by decide +kernel, rfl⟩
theorem eX5_store_49 : zd 1 cX5_store 49 50 (.iconst 3) := ⟨by decide +kernel, rfl⟩
theorem eX5_store_50 : zd 1 cX5_store 50 51 (.isub) := ⟨by decide +kernel, rfl⟩
theorem eX5_store_51 : zd 1 cX5_store 51 52 (.aload_n 0) := ⟨by decide +kernel, rfl⟩
theorem eX5_store_52 : zd 3 cX5_store 52 55 (.getfield 36) := ⟨by decide +kernel, rfl⟩
theorem eX5_store_55 : zd 1 cX5_store 55 56 (.iconst 2) := ⟨by decide +kernel, rfl⟩
theorem eX5_store_56 : zd 1 cX5_store 56 57 (.iaload) := ⟨by decide +kernel, rfl⟩
theorem eX5_store_57 : zd 1 cX5_store 57 58 (.iconst 3) := ⟨by decide +kernel, rfl⟩
theorem eX5_store_58 : zd 1 cX5_store 58 59 (.isub) := ⟨by decide +kernel, rfl⟩
theorem eX5_store_59 : zd 3 cX5_store 59 62 (.invokevirtual 125) := ⟨by decide +kernel, rfl⟩
theorem eX5_store_62 : zdi cX5_store 62 65 124 (.goto) := ⟨62, by decide +kernel, rfl, by decide⟩
theorem eX5_store_65 : zd 1 cX5_store 65 66 (.iload_n 1) := ⟨by decide +kernel, rfl⟩
theorem eX5_store_66 : zd 2 cX5_store 66 68 (.bipush 10) := ⟨by decide +kernel, rfl⟩
theorem eX5_store_68 : zdi cX5_store 68 71 87 (.if_icmp .ne) := ⟨19, by decide +kernel, rfl, by decide⟩
theorem eX5_store_71 : zd 1 cX5_store 71 72 (.aload_n 0) := ⟨by decide +kernel, rfl⟩
theorem eX5_store_72 : zd 3 cX5_store 72 75 (.getfield 28) := ⟨by decide +kernel, rfl⟩
theorem eX5_store_75 : zd 1 cX5_store 75 76 (.aload_n 0) := ⟨by decide +kernel, rfl⟩
theorem eX5_store_76 : zd 3 cX5_store 76 79 (.getfield 36) := ⟨by decide +kernel, rfl⟩
theorem eX5_store_79 : zd 1 cX5_store 79 80 (.iconst 0) := ⟨by decide +kernel, rfl⟩
theorem eX5_store_80 : zd 1 cX5_store 80 81 (.iaload) := ⟨by decide +kernel, rfl⟩
theorem eX5_store_81 : zd 3 cX5_store 81 84 (.invokevirtual 129) := ⟨by decide +kernel, rfl⟩
theorem eX5_store_84 : zdi cX5_store 84 87 124 (.goto) := ⟨40, by decide +kernel, rfl, by decide⟩
theorem eX5_store_87 : zd 1 cX5_store 87 88 (.iconst 0) := ⟨by decide +kernel, rfl⟩
theorem eX5_store_88 : zd 1 cX5_store 88 89 (.istore_n 2) := ⟨by decide +kernel, rfl⟩
theorem eX5_store_89 : zd 1 cX5_store 89 90 (.iload_n 2) := ⟨by decide +kernel, rfl⟩
theorem eX5_store_90 : zd 3 cX5_store 90 93 (.getstatic 81) := ⟨by decide +kernel, rfl⟩
theorem eX5_store_93 : zd 1 cX5_store 93 94 (.iload_n 1) := ⟨by decide +kernel, rfl⟩
theorem eX5_store_94 : zd 1 cX5_store 94 95 (.iaload) := ⟨by decide +kernel, rfl⟩
theorem eX5_store_95 : zdi cX5_store 95 98 124 (.if_icmp .ge) := ⟨29, by decide +kernel, rfl, by decide⟩
theorem eX5_store_98 : zd 1 cX5_store 98 99 (.aload_n 0) := ⟨by decide +kernel, rfl⟩
theorem eX5_store_99 : zd 3 cX5_store 99 102 (.getfield 12) := ⟨by decide +kernel, rfl⟩
theorem eX5_store_102 : zd 3 cX5_store 102 105 (.getstatic 131) := ⟨by decide +kernel, rfl⟩
theorem eX5_store_105 : zd 1 cX5_store 105 106 (.iload_n 1) := ⟨by decide +kernel, rfl⟩
theorem eX5_store_106 : zd 1 cX5_store 106 107 (.iaload) := ⟨by decide +kernel, rfl⟩
theorem eX5_store_107 : zd 1 cX5_store 107 108 (.iload_n 2) := ⟨by decide +kernel, rfl⟩
theorem eX5_store_108 : zd 1 cX5_store 108 109 (.iadd) := ⟨by decide +kernel, rfl⟩
theorem eX5_store_109 : zd 1 cX5_store 109 110 (.aload_n 0) := ⟨by decide +kernel, rfl⟩
theorem eX5_store_110 : zd 3 cX5_store 110 113 (.getfield 36) := ⟨by decide +kernel, rfl⟩
theorem eX5_store_113 : zd 1 cX5_store 113 114 (.iload_n 2) := ⟨by decide +kernel, rfl⟩
theorem eX5_store_114 : zd 1 cX5_store 114 115 (.iaload) := ⟨by decide +kernel, rfl⟩
theorem eX5_store_115 : zd 3 cX5_store 115 118 (.invokevirtual 134) := ⟨by decide +kernel, rfl⟩
theorem eX5_store_118 : zd 3 cX5_store 118 121 (.iinc 2 1) := ⟨by decide +kernel, rfl⟩
theorem eX5_store_121 : zdi cX5_store 121 124 89 (.goto) := ⟨(-32), by decide +kernel, rfl, by decide⟩
theorem eX5_store_124 : zd 1 cX5_store 124 125 (.return_) := ⟨by decide +kernel, rfl⟩
theorem FX5_28 : zlF RX5 28 5 2 := ⟨(RX5, TX5, 8), rfl, by decide, q163, zin5⟩
theorem MX5_122 : zlV RX5 122 yX4_addPost cX4_addPost 3 (none) 2 := ⟨q583, q584, q585, q4, q586, by decide, by decide, by decide +kernel⟩
theorem MX5_125 : zlV RX5 125 yX3_add cX3_add 4 (none) 3 := ⟨q587, q588, q589, q5, q590, by decide, by decide, by decide +kernel⟩
theorem MX5_129 : zlV RX5 129 yX9_add cX9_add 2 (none) 1 := ⟨q591, q592, q593, q6, q594, by decide, by decide, by decide +kernel⟩
theorem MX5_134 : zlV RX5 134 yX4_become cX4_become 3 (none) 2 := ⟨q597, q359, q360, q4, q361, by decide, by decide, by decide +kernel⟩
noncomputable def fB_Re_store_89 (v0 : tRe) (p1 : Int32) (ih : (Int32 × (Nat → Int32)) → Option (Int32 × (Nat → Int32))) (s7 : Int32 × (Nat → Int32)) : Option (Int32 × (Nat → Int32)) := (if inb p1 11 = true then (if (zT_NUMBERS_OF.getD (ix p1) 0) ≤ (s7.1) then (some ((s7.1), (s7.2))) else (if inb p1 11 = true then (if inb (s7.1) 3 = true then (zlet (f_Qu_become ((s7.2), (gQu_places (gRe_quayDraft v0)), (gQu_strengths (gRe_quayDraft v0))) ((zT_FIRST_TOLD.getD (ix p1) 0) + (s7.1)) ((gRe_row v0) (ix (s7.1)))) (fun (r20 : (Nat → Int32)) => (ih (((s7.1) + 1), r20)))) else none) else none)) else none)
noncomputable def f_Re_store (v0 : tRe) (p1 : Int32) : Option ((Nat → Int32) × (Nat → Int32) × (Nat → Int32) × (Nat → Int32) × (Nat → Int32) × (Nat → Int32) × (Nat → Int32) × (Nat → Int32) × (Nat → Int32)) := (if p1 = 1 then (Option.bind (f_Qu_addPost (gRe_quayDraft v0) ((gRe_row v0) 0) ((gRe_row v0) 1)) (fun (r2 : (Nat → Int32) × (Nat → Int32) × (Nat → Int32)) => (some ((r2.1), (r2.2.1), (r2.2.2), (gPl_ints (gRe_planDraft v0)), (gPl_seconds (gRe_planDraft v0)), (gPl_engines (gRe_planDraft v0)), (gPl_wheels (gRe_planDraft v0)), (gTi_ints (gRe_tideDraft v0)), (gTi_heights (gRe_tideDraft v0)))))) else (if p1 = 9 then (Option.bind (f_Pl_add (gRe_planDraft v0) ((gRe_row v0) 0) (((gRe_row v0) 1) - 3) (((gRe_row v0) 2) - 3)) (fun (r4 : (Nat → Int32) × (Nat → Int32) × (Nat → Int32) × (Nat → Int32)) => (some ((gQu_ints (gRe_quayDraft v0)), (gQu_places (gRe_quayDraft v0)), (gQu_strengths (gRe_quayDraft v0)), (r4.1), (r4.2.1), (r4.2.2.1), (r4.2.2.2), (gTi_ints (gRe_tideDraft v0)), (gTi_heights (gRe_tideDraft v0)))))) else (if p1 = 10 then (Option.bind (f_Ti_add (gRe_tideDraft v0) ((gRe_row v0) 0)) (fun (r6 : (Nat → Int32) × (Nat → Int32)) => (some ((gQu_ints (gRe_quayDraft v0)), (gQu_places (gRe_quayDraft v0)), (gQu_strengths (gRe_quayDraft v0)), (gPl_ints (gRe_planDraft v0)), (gPl_seconds (gRe_planDraft v0)), (gPl_engines (gRe_planDraft v0)), (gPl_wheels (gRe_planDraft v0)), (r6.1), (r6.2))))) else (Option.bind (lp (fB_Re_store_89 v0 p1) LF (0, (gQu_ints (gRe_quayDraft v0)))) (fun (q8 : Int32 × (Nat → Int32)) => (some ((q8.2), (gQu_places (gRe_quayDraft v0)), (gQu_strengths (gRe_quayDraft v0)), (gPl_ints (gRe_planDraft v0)), (gPl_seconds (gRe_planDraft v0)), (gPl_engines (gRe_planDraft v0)), (gPl_wheels (gRe_planDraft v0)), (gTi_ints (gRe_tideDraft v0)), (gTi_heights (gRe_tideDraft v0)))))))))
abbrev rm_Re_store : Room := { frames := 1, cells := 0, slots := 0, locals := 23 }
set_option maxHeartbeats 4000000 in
set_option maxRecDepth 100000 in
theorem c_Re_store (l : Launch) (g : zGl) (a0 : Nat → Nat) (o0 : Nat) (v0 : tRe) (p1 : Int32) (out : (Nat → Int32) × (Nat → Int32) × (Nat → Int32) × (Nat → Int32) × (Nat → Int32) × (Nat → Int32) × (Nat → Int32) × (Nat → Int32) × (Nat → Int32)) (hf : f_Re_store v0 p1 = some out) : zMv l yX5_store cX5_store 3 rm_Re_store g [.ref (a0 o0), .int p1] (W_Re g a0 o0 (gRe_ints v0) (gQu_ints (gRe_quayDraft v0)) (gQu_places (gRe_quayDraft v0)) (gQu_strengths (gRe_quayDraft v0)) (gPl_ints (gRe_planDraft v0)) (gPl_seconds (gRe_planDraft v0)) (gPl_engines (gRe_planDraft v0)) (gPl_wheels (gRe_planDraft v0)) (gTi_ints (gRe_tideDraft v0)) (gTi_heights (gRe_tideDraft v0)) (gRe_times v0) (gRe_row v0))  (W_Re g a0 o0 (gRe_ints v0) (out.1) (out.2.1) (out.2.2.1) (out.2.2.2.1) (out.2.2.2.2.1) (out.2.2.2.2.2.1) (out.2.2.2.2.2.2.1) (out.2.2.2.2.2.2.2.1) (out.2.2.2.2.2.2.2.2) (gRe_times v0) (gRe_row v0)) := by
  refine zMv_of (lv := [(0, .ref (a0 o0)), (1, .int p1)]) (by decide) (Nat.le_of_ble_eq_true rfl) rfl (fun x hl hg C hret => ?_)
  subst hl; subst hg
  rw [f_Re_store] at hf
  refine r_iload_n C eX5_store_0 1 rfl rfl ?_
  refine r_iconst C (v := 1) eX5_store_1 (by decide) ?_
  refine r_icmp_ne C eX5_store_2 (fun c1 => ?_) (fun c1 => ?_)
  · rw [if_neg c1] at hf
    refine r_iload_n C eX5_store_27 1 rfl rfl ?_
    refine r_bipush C (v := 9) eX5_store_28 (by decide) ?_
    refine r_icmp_ne C eX5_store_30 (fun c3 => ?_) (fun c3 => ?_)
    · rw [if_neg c3] at hf
      refine r_iload_n C eX5_store_65 1 rfl rfl ?_
      refine r_bipush C (v := 10) eX5_store_66 (by decide) ?_
      refine r_icmp_ne C eX5_store_68 (fun c5 => ?_) (fun c5 => ?_)
      · rw [if_neg c5] at hf
        refine r_iconst C (v := 0) eX5_store_87 (by decide) ?_
        refine r_istore_n C [(2, .int 0), (0, .ref (a0 o0)), (1, .int p1)] eX5_store_88 rfl (by decide) rfl ?_
        obtain ⟨q8, h9, hf⟩ := zbind hf
        have J10 : vV x 3 0 0 (W_Re (z_g x) a0 o0 (gRe_ints v0) (q8.2) (gQu_places (gRe_quayDraft v0)) (gQu_strengths (gRe_quayDraft v0)) (gPl_ints (gRe_planDraft v0)) (gPl_seconds (gRe_planDraft v0)) (gPl_engines (gRe_planDraft v0)) (gPl_wheels (gRe_planDraft v0)) (gTi_ints (gRe_tideDraft v0)) (gTi_heights (gRe_tideDraft v0)) (gRe_times v0) (gRe_row v0)) 124 [] [] := by
          obtain rfl := Option.some.inj (show some (((q8.2), (gQu_places (gRe_quayDraft v0)), (gQu_strengths (gRe_quayDraft v0)), (gPl_ints (gRe_planDraft v0)), (gPl_seconds (gRe_planDraft v0)), (gPl_engines (gRe_planDraft v0)), (gPl_wheels (gRe_planDraft v0)), (gTi_ints (gRe_tideDraft v0)), (gTi_heights (gRe_tideDraft v0))) : (Nat → Int32) × (Nat → Int32) × (Nat → Int32) × (Nat → Int32) × (Nat → Int32) × (Nat → Int32) × (Nat → Int32) × (Nat → Int32) × (Nat → Int32)) = some _ from hf)
          exact hret _ _ _ eX5_store_124
        have L11 : ∀ (nL11 : Nat) (s7 : Int32 × (Nat → Int32)), lp (fB_Re_store_89 v0 p1) nL11 s7 = some q8 → vV x 3 0 0 (W_Re (z_g x) a0 o0 (gRe_ints v0) (s7.2) (gQu_places (gRe_quayDraft v0)) (gQu_strengths (gRe_quayDraft v0)) (gPl_ints (gRe_planDraft v0)) (gPl_seconds (gRe_planDraft v0)) (gPl_engines (gRe_planDraft v0)) (gPl_wheels (gRe_planDraft v0)) (gTi_ints (gRe_tideDraft v0)) (gTi_heights (gRe_tideDraft v0)) (gRe_times v0) (gRe_row v0)) 89 [(0, .ref (a0 o0)), (1, .int p1), (2, .int (s7.1))] [] := by
          intro nL11
          induction nL11 with
          | zero => intro s7 hq; cases hq
          | succ nL11 ihL11 =>
            intro s7 hbL11
            rw [lp_succ, fB_Re_store_89] at hbL11
            refine r_iload_n C eX5_store_89 2 rfl rfl ?_
            refine r_stab C (f := zT_NUMBERS_OF) eX5_store_90 (List.mem_of_getElem? (i := 3) rfl) q541 (fun tt12 hT13 => ?_)
            refine r_iload_n C eX5_store_93 1 rfl rfl ?_
            obtain ⟨hb14, hbL11⟩ := zchk hbL11
            refine r_tld C hT13 eX5_store_94 (inb_in hb14) ?_
            refine r_icmp_ge C eX5_store_95 (fun c15 => ?_) (fun c15 => ?_)
            · rw [if_pos c15] at hbL11
              obtain rfl := Option.some.inj hbL11
              refine r_sub (lv' := []) [] rfl ?_
              exact J10
            · rw [if_neg c15] at hbL11
              refine r_aload_n C eX5_store_98 0 rfl rfl ?_
              refine r_get (v := .ref (a0 (o0 + 3))) C eX5_store_99 FX5_12 0 rfl rfl ?_
              refine r_stab C (f := zT_FIRST_TOLD) eX5_store_102 (List.mem_of_getElem? (i := 5) rfl) q595 (fun tt16 hT17 => ?_)
              refine r_iload_n C eX5_store_105 1 rfl rfl ?_
              obtain ⟨hb18, hbL11⟩ := zchk hbL11
              refine r_tld C hT17 eX5_store_106 (inb_in hb18) ?_
              refine r_iload_n C eX5_store_107 2 rfl rfl ?_
              refine r_iadd C eX5_store_108 ?_
              refine r_aload_n C eX5_store_109 0 rfl rfl ?_
              refine r_get (v := .ref (a0 (o0 + 2))) C eX5_store_110 FX5_36 0 rfl rfl ?_
              refine r_iload_n C eX5_store_113 2 rfl rfl ?_
              obtain ⟨hb19, hbL11⟩ := zchk hbL11
              refine r_iald C eX5_store_114 2 rfl (inb_in hb19) ((gRe_row v0) (ix (s7.1))) rfl ?_
              obtain ⟨r20, hr20, hbL11⟩ := zlet_of hbL11
              refine r_V_v (ws' := W_Re (z_g x) a0 o0 (gRe_ints v0) r20 (gQu_places (gRe_quayDraft v0)) (gQu_strengths (gRe_quayDraft v0)) (gPl_ints (gRe_planDraft v0)) (gPl_seconds (gRe_planDraft v0)) (gPl_engines (gRe_planDraft v0)) (gPl_wheels (gRe_planDraft v0)) (gTi_ints (gRe_tideDraft v0)) (gTi_heights (gRe_tideDraft v0)) (gRe_times v0) (gRe_row v0)) C (c_Qu_become (z_l x) (z_g x) a0 (o0 + 3) ((s7.2), (gQu_places (gRe_quayDraft v0)), (gQu_strengths (gRe_quayDraft v0))) ((zT_FIRST_TOLD.getD (ix p1) 0) + (s7.1)) ((gRe_row v0) (ix (s7.1))) r20 hr20) eX5_store_115 MX5_134 ⟨0, 4, _, _, rfl, rfl, rfl⟩ [3, 4, 5] rfl rfl rfl rfl [0, 1, 2, 6, 7, 8, 9, 10, 11] rfl ⟨rfl, rfl, rfl, rfl, rfl, rfl, rfl, rfl, rfl, trivial⟩ 12 rfl rfl rfl rfl rfl rfl ?_
              refine r_iinc C (v := ((s7.1) + 1)) [(2, .int ((s7.1) + 1)), (0, .ref (a0 o0)), (1, .int p1)] eX5_store_118 2 rfl rfl (by decide) rfl ?_
              refine r_goto C eX5_store_121 ?_
              refine r_sub (lv' := [(0, .ref (a0 o0)), (1, .int p1), (2, .int ((s7.1) + 1))]) [1, 2, 0] rfl ?_
              have hc := ihL11 (((s7.1) + 1), r20) hbL11
              exact hc
        refine r_sub (lv' := [(0, .ref (a0 o0)), (1, .int p1), (2, .int 0)]) [1, 2, 0] rfl ?_
        have hc := L11 LF (0, (gQu_ints (gRe_quayDraft v0))) h9
        exact hc
      · rw [if_pos c5] at hf
        refine r_aload_n C eX5_store_71 0 rfl rfl ?_
        refine r_get (v := .ref (a0 (o0 + 10))) C eX5_store_72 FX5_28 0 rfl rfl ?_
        refine r_aload_n C eX5_store_75 0 rfl rfl ?_
        refine r_get (v := .ref (a0 (o0 + 2))) C eX5_store_76 FX5_36 0 rfl rfl ?_
        refine r_iconst C (v := 0) eX5_store_79 (by decide) ?_
        refine r_ialdN C eX5_store_80 2 0 (by decide) rfl ((gRe_row v0) 0) rfl ?_
        obtain ⟨r6, hr6, hf⟩ := zbind hf
        refine r_V_v (ws' := W_Re (z_g x) a0 o0 (gRe_ints v0) (gQu_ints (gRe_quayDraft v0)) (gQu_places (gRe_quayDraft v0)) (gQu_strengths (gRe_quayDraft v0)) (gPl_ints (gRe_planDraft v0)) (gPl_seconds (gRe_planDraft v0)) (gPl_engines (gRe_planDraft v0)) (gPl_wheels (gRe_planDraft v0)) (r6.1) (r6.2) (gRe_times v0) (gRe_row v0)) C (c_Ti_add (z_l x) (z_g x) a0 (o0 + 10) (gRe_tideDraft v0) ((gRe_row v0) 0) r6 hr6) eX5_store_81 MX5_129 ⟨0, 9, _, _, rfl, rfl, rfl⟩ [10, 11] rfl rfl rfl rfl [0, 1, 2, 3, 4, 5, 6, 7, 8, 9] rfl ⟨rfl, rfl, rfl, rfl, rfl, rfl, rfl, rfl, rfl, rfl, trivial⟩ 12 rfl rfl rfl rfl rfl rfl ?_
        refine r_goto C eX5_store_84 ?_
        obtain rfl := Option.some.inj (show some (((gQu_ints (gRe_quayDraft v0)), (gQu_places (gRe_quayDraft v0)), (gQu_strengths (gRe_quayDraft v0)), (gPl_ints (gRe_planDraft v0)), (gPl_seconds (gRe_planDraft v0)), (gPl_engines (gRe_planDraft v0)), (gPl_wheels (gRe_planDraft v0)), (r6.1), (r6.2)) : (Nat → Int32) × (Nat → Int32) × (Nat → Int32) × (Nat → Int32) × (Nat → Int32) × (Nat → Int32) × (Nat → Int32) × (Nat → Int32) × (Nat → Int32)) = some _ from hf)
        exact hret _ _ _ eX5_store_124
    · rw [if_pos c3] at hf
      refine r_aload_n C eX5_store_33 0 rfl rfl ?_
      refine r_get (v := .ref (a0 (o0 + 6))) C eX5_store_34 FX5_21 0 rfl rfl ?_
      refine r_aload_n C eX5_store_37 0 rfl rfl ?_
      refine r_get (v := .ref (a0 (o0 + 2))) C eX5_store_38 FX5_36 0 rfl rfl ?_
      refine r_iconst C (v := 0) eX5_store_41 (by decide) ?_
      refine r_ialdN C eX5_store_42 2 0 (by decide) rfl ((gRe_row v0) 0) rfl ?_
      refine r_aload_n C eX5_store_43 0 rfl rfl ?_
      refine r_get (v := .ref (a0 (o0 + 2))) C eX5_store_44 FX5_36 0 rfl rfl ?_
      refine r_iconst C (v := 1) eX5_store_47 (by decide) ?_
      refine r_ialdN C eX5_store_48 2 1 (by decide) rfl ((gRe_row v0) 1) rfl ?_
      refine r_iconst C (v := 3) eX5_store_49 (by decide) ?_
      refine r_isub C eX5_store_50 ?_
      refine r_aload_n C eX5_store_51 0 rfl rfl ?_
      refine r_get (v := .ref (a0 (o0 + 2))) C eX5_store_52 FX5_36 0 rfl rfl ?_
      refine r_iconst C (v := 2) eX5_store_55 (by decide) ?_
      refine r_ialdN C eX5_store_56 2 2 (by decide) rfl ((gRe_row v0) 2) rfl ?_
      refine r_iconst C (v := 3) eX5_store_57 (by decide) ?_
      refine r_isub C eX5_store_58 ?_
      obtain ⟨r4, hr4, hf⟩ := zbind hf
      refine r_V_v (ws' := W_Re (z_g x) a0 o0 (gRe_ints v0) (gQu_ints (gRe_quayDraft v0)) (gQu_places (gRe_quayDraft v0)) (gQu_strengths (gRe_quayDraft v0)) (r4.1) (r4.2.1) (r4.2.2.1) (r4.2.2.2) (gTi_ints (gRe_tideDraft v0)) (gTi_heights (gRe_tideDraft v0)) (gRe_times v0) (gRe_row v0)) C (c_Pl_add (z_l x) (z_g x) a0 (o0 + 6) (gRe_planDraft v0) ((gRe_row v0) 0) (((gRe_row v0) 1) - 3) (((gRe_row v0) 2) - 3) r4 hr4) eX5_store_59 MX5_125 ⟨0, 3, _, _, rfl, rfl, rfl⟩ [6, 7, 8, 9] rfl rfl rfl rfl [0, 1, 2, 3, 4, 5, 10, 11] rfl ⟨rfl, rfl, rfl, rfl, rfl, rfl, rfl, rfl, trivial⟩ 12 rfl rfl rfl rfl rfl rfl ?_
      refine r_goto C eX5_store_62 ?_
      obtain rfl := Option.some.inj (show some (((gQu_ints (gRe_quayDraft v0)), (gQu_places (gRe_quayDraft v0)), (gQu_strengths (gRe_quayDraft v0)), (r4.1), (r4.2.1), (r4.2.2.1), (r4.2.2.2), (gTi_ints (gRe_tideDraft v0)), (gTi_heights (gRe_tideDraft v0))) : (Nat → Int32) × (Nat → Int32) × (Nat → Int32) × (Nat → Int32) × (Nat → Int32) × (Nat → Int32) × (Nat → Int32) × (Nat → Int32) × (Nat → Int32)) = some _ from hf)
      exact hret _ _ _ eX5_store_124
  · rw [if_pos c1] at hf
    refine r_aload_n C eX5_store_5 0 rfl rfl ?_
    refine r_get (v := .ref (a0 (o0 + 3))) C eX5_store_6 FX5_12 0 rfl rfl ?_
    refine r_aload_n C eX5_store_9 0 rfl rfl ?_
    refine r_get (v := .ref (a0 (o0 + 2))) C eX5_store_10 FX5_36 0 rfl rfl ?_
    refine r_iconst C (v := 0) eX5_store_13 (by decide) ?_
    refine r_ialdN C eX5_store_14 2 0 (by decide) rfl ((gRe_row v0) 0) rfl ?_
    refine r_aload_n C eX5_store_15 0 rfl rfl ?_
    refine r_get (v := .ref (a0 (o0 + 2))) C eX5_store_16 FX5_36 0 rfl rfl ?_
    refine r_iconst C (v := 1) eX5_store_19 (by decide) ?_
    refine r_ialdN C eX5_store_20 2 1 (by decide) rfl ((gRe_row v0) 1) rfl ?_
    obtain ⟨r2, hr2, hf⟩ := zbind hf
    refine r_V_v (ws' := W_Re (z_g x) a0 o0 (gRe_ints v0) (r2.1) (r2.2.1) (r2.2.2) (gPl_ints (gRe_planDraft v0)) (gPl_seconds (gRe_planDraft v0)) (gPl_engines (gRe_planDraft v0)) (gPl_wheels (gRe_planDraft v0)) (gTi_ints (gRe_tideDraft v0)) (gTi_heights (gRe_tideDraft v0)) (gRe_times v0) (gRe_row v0)) C (c_Qu_addPost (z_l x) (z_g x) a0 (o0 + 3) (gRe_quayDraft v0) ((gRe_row v0) 0) ((gRe_row v0) 1) r2 hr2) eX5_store_21 MX5_122 ⟨0, 4, _, _, rfl, rfl, rfl⟩ [3, 4, 5] rfl rfl rfl rfl [0, 1, 2, 6, 7, 8, 9, 10, 11] rfl ⟨rfl, rfl, rfl, rfl, rfl, rfl, rfl, rfl, rfl, trivial⟩ 12 rfl rfl rfl rfl rfl rfl ?_
    refine r_goto C eX5_store_24 ?_
    obtain rfl := Option.some.inj (show some (((r2.1), (r2.2.1), (r2.2.2), (gPl_ints (gRe_planDraft v0)), (gPl_seconds (gRe_planDraft v0)), (gPl_engines (gRe_planDraft v0)), (gPl_wheels (gRe_planDraft v0)), (gTi_ints (gRe_tideDraft v0)), (gTi_heights (gRe_tideDraft v0))) : (Nat → Int32) × (Nat → Int32) × (Nat → Int32) × (Nat → Int32) × (Nat → Int32) × (Nat → Int32) × (Nat → Int32) × (Nat → Int32) × (Nat → Int32)) = some _ from hf)
    exact hret _ _ _ eX5_store_124
theorem eX5_readEnd_0 : zd 1 cX5_readEnd 0 1 (.aload_n 0) := ⟨by decide +kernel, rfl⟩
theorem eX5_readEnd_1 : zd 1 cX5_readEnd 1 2 (.aload_n 1) := ⟨by decide +kernel, rfl⟩
theorem eX5_readEnd_2 : zd 1 cX5_readEnd 2 3 (.aload_n 0) := ⟨by decide +kernel, rfl⟩
theorem eX5_readEnd_3 : zd 3 cX5_readEnd 3 6 (.getfield 46) := ⟨by decide +kernel, rfl⟩
theorem eX5_readEnd_6 : zd 3 cX5_readEnd 6 9 (.invokevirtual 58) := ⟨by decide +kernel, rfl⟩
theorem eX5_readEnd_9 : zd 3 cX5_readEnd 9 12 (.putfield 46) := ⟨by decide +kernel, rfl⟩
theorem eX5_readEnd_12 : zd 1 cX5_readEnd 12 13 (.aload_n 1) := ⟨by decide +kernel, rfl⟩
theorem eX5_readEnd_13 : zd 1 cX5_readEnd 13 14 (.aload_n 0) := ⟨by decide +kernel, rfl⟩
theorem eX5_readEnd_14 : zd 3 cX5_readEnd 14 17 (.getfield 46) := ⟨by decide +kernel, rfl⟩
theorem eX5_readEnd_17 : zd 3 cX5_readEnd 17 20 (.invokevirtual 94) := ⟨by decide +kernel, rfl⟩
theorem eX5_readEnd_20 : zd 2 cX5_readEnd 20 22 (.bipush 59) := ⟨by decide +kernel, rfl⟩
theorem eX5_readEnd_22 : zdi cX5_readEnd 22 25 35 (.if_icmp .eq) := ⟨13, by decide +kernel, rfl, by decide⟩
theorem eX5_readEnd_25 : zd 1 cX5_readEnd 25 26 (.aload_n 0) := ⟨by decide +kernel, rfl⟩
theorem eX5_readEnd_26 : zd 1 cX5_readEnd 26 27 (.iconst 1) := ⟨by decide +kernel, rfl⟩
theorem eX5_readEnd_27 : zd 1 cX5_readEnd 27 28 (.aload_n 0) := ⟨by decide +kernel, rfl⟩
theorem eX5_readEnd_28 : zd 3 cX5_readEnd 28 31 (.getfield 46) := ⟨by decide +kernel, rfl⟩
theorem eX5_readEnd_31 : zd 3 cX5_readEnd 31 34 (.invokevirtual 74) := ⟨by decide +kernel, rfl⟩
theorem eX5_readEnd_34 : zd 1 cX5_readEnd 34 35 (.return_) := ⟨by decide +kernel, rfl⟩
theorem eX5_readEnd_35 : zd 1 cX5_readEnd 35 36 (.aload_n 0) := ⟨by decide +kernel, rfl⟩
theorem eX5_readEnd_36 : zd 1 cX5_readEnd 36 37 (.dup) := ⟨by decide +kernel, rfl⟩
theorem eX5_readEnd_37 : zd 3 cX5_readEnd 37 40 (.getfield 46) := ⟨by decide +kernel, rfl⟩
theorem eX5_readEnd_40 : zd 1 cX5_readEnd 40 41 (.iconst 1) := ⟨by decide +kernel, rfl⟩
theorem eX5_readEnd_41 : zd 1 cX5_readEnd 41 42 (.iadd) := ⟨by decide +kernel, rfl⟩
theorem eX5_readEnd_42 : zd 3 cX5_readEnd 42 45 (.putfield 46) := ⟨by decide +kernel, rfl⟩
theorem eX5_readEnd_45 : zd 1 cX5_readEnd 45 46 (.aload_n 0) := ⟨by decide +kernel, rfl⟩
theorem eX5_readEnd_46 : zd 1 cX5_readEnd 46 47 (.iload_n 2) := ⟨by decide +kernel, rfl⟩
theorem eX5_readEnd_47 : zd 3 cX5_readEnd 47 50 (.invokevirtual 105) := ⟨by decide +kernel, rfl⟩
theorem eX5_readEnd_50 : zd 1 cX5_readEnd 50 51 (.aload_n 0) := ⟨by decide +kernel, rfl⟩
theorem eX5_readEnd_51 : zd 3 cX5_readEnd 51 54 (.getfield 32) := ⟨by decide +kernel, rfl⟩
theorem eX5_readEnd_54 : zd 1 cX5_readEnd 54 55 (.iload_n 2) := ⟨by decide +kernel, rfl⟩
theorem eX5_readEnd_55 : zd 1 cX5_readEnd 55 56 (.dup2) := ⟨by decide +kernel, rfl⟩
theorem eX5_readEnd_56 : zd 1 cX5_readEnd 56 57 (.iaload) := ⟨by decide +kernel, rfl⟩
theorem eX5_readEnd_57 : zd 1 cX5_readEnd 57 58 (.iconst 1) := ⟨by decide +kernel, rfl⟩
theorem eX5_readEnd_58 : zd 1 cX5_readEnd 58 59 (.iadd) := ⟨by decide +kernel, rfl⟩
theorem eX5_readEnd_59 : zd 1 cX5_readEnd 59 60 (.iastore) := ⟨by decide +kernel, rfl⟩
theorem eX5_readEnd_60 : zd 1 cX5_readEnd 60 61 (.return_) := ⟨by decide +kernel, rfl⟩
theorem FX5_32 : zlF RX5 32 5 5 := ⟨(RX5, TX5, 8), rfl, by decide, q169, zin5⟩
theorem MX5_105 : zlV RX5 105 yX5_store cX5_store 3 (none) 1 := ⟨q579, q581, qs7, q3, q582, by decide, by decide, by decide +kernel⟩
noncomputable def f_Re_readEnd (v0 : tRe) (v1 : tTe) (p1 : Int32) : Option ((Nat → Int32) × (Nat → Int32) × (Nat → Int32) × (Nat → Int32) × (Nat → Int32) × (Nat → Int32) × (Nat → Int32) × (Nat → Int32) × (Nat → Int32) × (Nat → Int32) × (Nat → Int32)) := (Option.bind (f_Te_behindBlanks v1 ((gRe_ints v0) 7)) (fun (r1 : Int32) => (Option.bind (f_Te_byteAt v1 r1) (fun (r2 : Int32) => (if r2 = 59 then (zlet (r1 + 1) (fun (z4 : Int32) => (Option.bind (f_Re_store ((upd (gRe_ints v0) 7 z4), (gRe_quayDraft v0), (gRe_planDraft v0), (gRe_tideDraft v0), (gRe_times v0), (gRe_row v0)) p1) (fun (r5 : (Nat → Int32) × (Nat → Int32) × (Nat → Int32) × (Nat → Int32) × (Nat → Int32) × (Nat → Int32) × (Nat → Int32) × (Nat → Int32) × (Nat → Int32)) => (if inb p1 11 = true then (zlet (((gRe_times v0) (ix p1)) + 1) (fun (z7 : Int32) => (if inb p1 11 = true then (some ((upd (gRe_ints v0) 7 z4), (r5.1), (r5.2.1), (r5.2.2.1), (r5.2.2.2.1), (r5.2.2.2.2.1), (r5.2.2.2.2.2.1), (r5.2.2.2.2.2.2.1), (r5.2.2.2.2.2.2.2.1), (r5.2.2.2.2.2.2.2.2), (upd (gRe_times v0) (ix p1) z7))) else none))) else none))))) else (zlet (f_Re_fail ((upd (gRe_ints v0) 7 r1), (gRe_quayDraft v0), (gRe_planDraft v0), (gRe_tideDraft v0), (gRe_times v0), (gRe_row v0)) 1 r1) (fun (r9 : (Nat → Int32)) => (some (r9, (gQu_ints (gRe_quayDraft v0)), (gQu_places (gRe_quayDraft v0)), (gQu_strengths (gRe_quayDraft v0)), (gPl_ints (gRe_planDraft v0)), (gPl_seconds (gRe_planDraft v0)), (gPl_engines (gRe_planDraft v0)), (gPl_wheels (gRe_planDraft v0)), (gTi_ints (gRe_tideDraft v0)), (gTi_heights (gRe_tideDraft v0)), (gRe_times v0))))))))))
abbrev rm_Re_readEnd : Room := { frames := 2, cells := 0, slots := 0, locals := 45 }
set_option maxHeartbeats 4000000 in
set_option maxRecDepth 100000 in
theorem c_Re_readEnd (l : Launch) (g : zGl) (a0 : Nat → Nat) (o0 : Nat) (v0 : tRe) (a1 : Nat → Nat) (o1 : Nat) (v1 : tTe) (p1 : Int32) (out : (Nat → Int32) × (Nat → Int32) × (Nat → Int32) × (Nat → Int32) × (Nat → Int32) × (Nat → Int32) × (Nat → Int32) × (Nat → Int32) × (Nat → Int32) × (Nat → Int32) × (Nat → Int32)) (hf : f_Re_readEnd v0 v1 p1 = some out) : zMv l yX5_readEnd cX5_readEnd 3 rm_Re_readEnd g [.ref (a0 o0), .ref (a1 o1), .int p1] (W_Re g a0 o0 (gRe_ints v0) (gQu_ints (gRe_quayDraft v0)) (gQu_places (gRe_quayDraft v0)) (gQu_strengths (gRe_quayDraft v0)) (gPl_ints (gRe_planDraft v0)) (gPl_seconds (gRe_planDraft v0)) (gPl_engines (gRe_planDraft v0)) (gPl_wheels (gRe_planDraft v0)) (gTi_ints (gRe_tideDraft v0)) (gTi_heights (gRe_tideDraft v0)) (gRe_times v0) (gRe_row v0) ++ W_Te g a1 o1 (gTe_ints v1) (gTe_bytes v1))  (W_Re g a0 o0 (out.1) (out.2.1) (out.2.2.1) (out.2.2.2.1) (out.2.2.2.2.1) (out.2.2.2.2.2.1) (out.2.2.2.2.2.2.1) (out.2.2.2.2.2.2.2.1) (out.2.2.2.2.2.2.2.2.1) (out.2.2.2.2.2.2.2.2.2.1) (out.2.2.2.2.2.2.2.2.2.2) (gRe_row v0) ++ W_Te g a1 o1 (gTe_ints v1) (gTe_bytes v1)) := by
  refine zMv_of (lv := [(0, .ref (a0 o0)), (1, .ref (a1 o1)), (2, .int p1)]) (by decide) (Nat.le_of_ble_eq_true rfl) rfl (fun x hl hg C hret => ?_)
  subst hl; subst hg
  rw [f_Re_readEnd] at hf
  refine r_aload_n C eX5_readEnd_0 0 rfl rfl ?_
  refine r_aload_n C eX5_readEnd_1 1 rfl rfl ?_
  refine r_aload_n C eX5_readEnd_2 0 rfl rfl ?_
  refine r_get (v := .int ((gRe_ints v0) 7)) C eX5_readEnd_3 FX5_46 0 rfl rfl ?_
  obtain ⟨r1, hr1, hf⟩ := zbind hf
  refine r_V_i (ws' := W_Re (z_g x) a0 o0 (gRe_ints v0) (gQu_ints (gRe_quayDraft v0)) (gQu_places (gRe_quayDraft v0)) (gQu_strengths (gRe_quayDraft v0)) (gPl_ints (gRe_planDraft v0)) (gPl_seconds (gRe_planDraft v0)) (gPl_engines (gRe_planDraft v0)) (gPl_wheels (gRe_planDraft v0)) (gTi_ints (gRe_tideDraft v0)) (gTi_heights (gRe_tideDraft v0)) (gRe_times v0) (gRe_row v0) ++ W_Te (z_g x) a1 o1 (gTe_ints v1) (gTe_bytes v1)) C (c_Te_behindBlanks (z_l x) (z_g x) a1 o1 v1 ((gRe_ints v0) 7) r1 hr1) eX5_readEnd_6 MX5_58 ⟨0, 8, _, _, rfl, rfl, rfl⟩ [12, 13] rfl rfl rfl rfl [0, 1, 2, 3, 4, 5, 6, 7, 8, 9, 10, 11] rfl ⟨rfl, rfl, rfl, rfl, rfl, rfl, rfl, rfl, rfl, rfl, rfl, rfl, trivial⟩ 14 rfl rfl rfl rfl rfl rfl ?_
  refine r_put (ws' := W_Re (z_g x) a0 o0 (upd (gRe_ints v0) 7 r1) (gQu_ints (gRe_quayDraft v0)) (gQu_places (gRe_quayDraft v0)) (gQu_strengths (gRe_quayDraft v0)) (gPl_ints (gRe_planDraft v0)) (gPl_seconds (gRe_planDraft v0)) (gPl_engines (gRe_planDraft v0)) (gPl_wheels (gRe_planDraft v0)) (gTi_ints (gRe_tideDraft v0)) (gTi_heights (gRe_tideDraft v0)) (gRe_times v0) (gRe_row v0) ++ W_Te (z_g x) a1 o1 (gTe_ints v1) (gTe_bytes v1)) C eX5_readEnd_9 PX5_46 0 rfl rfl rfl (Nat.le_of_ble_eq_true rfl) rfl ?_
  refine r_aload_n C eX5_readEnd_12 1 rfl rfl ?_
  refine r_aload_n C eX5_readEnd_13 0 rfl rfl ?_
  refine r_get (v := .int r1) C eX5_readEnd_14 FX5_46 0 rfl rfl ?_
  obtain ⟨r2, hr2, hf⟩ := zbind hf
  refine r_V_i (ws' := W_Re (z_g x) a0 o0 (upd (gRe_ints v0) 7 r1) (gQu_ints (gRe_quayDraft v0)) (gQu_places (gRe_quayDraft v0)) (gQu_strengths (gRe_quayDraft v0)) (gPl_ints (gRe_planDraft v0)) (gPl_seconds (gRe_planDraft v0)) (gPl_engines (gRe_planDraft v0)) (gPl_wheels (gRe_planDraft v0)) (gTi_ints (gRe_tideDraft v0)) (gTi_heights (gRe_tideDraft v0)) (gRe_times v0) (gRe_row v0) ++ W_Te (z_g x) a1 o1 (gTe_ints v1) (gTe_bytes v1)) C (c_Te_byteAt (z_l x) (z_g x) a1 o1 v1 r1 r2 hr2) eX5_readEnd_17 MX5_94 ⟨0, 8, _, _, rfl, rfl, rfl⟩ [12, 13] rfl rfl rfl rfl [0, 1, 2, 3, 4, 5, 6, 7, 8, 9, 10, 11] rfl ⟨rfl, rfl, rfl, rfl, rfl, rfl, rfl, rfl, rfl, rfl, rfl, rfl, trivial⟩ 14 rfl rfl rfl rfl rfl rfl ?_
  refine r_bipush C (v := 59) eX5_readEnd_20 (by decide) ?_
  refine r_icmp_eq C eX5_readEnd_22 (fun c3 => ?_) (fun c3 => ?_)
  · rw [if_pos c3] at hf
    refine r_aload_n C eX5_readEnd_35 0 rfl rfl ?_
    refine r_dup C eX5_readEnd_36 rfl ?_
    refine r_get (v := .int r1) C eX5_readEnd_37 FX5_46 0 rfl rfl ?_
    refine r_iconst C (v := 1) eX5_readEnd_40 (by decide) ?_
    refine r_iadd C eX5_readEnd_41 ?_
    obtain ⟨z4, hz4, hf⟩ := zlet_of hf
    refine r_nami hz4 ?_
    refine r_put (ws' := W_Re (z_g x) a0 o0 (upd (gRe_ints v0) 7 z4) (gQu_ints (gRe_quayDraft v0)) (gQu_places (gRe_quayDraft v0)) (gQu_strengths (gRe_quayDraft v0)) (gPl_ints (gRe_planDraft v0)) (gPl_seconds (gRe_planDraft v0)) (gPl_engines (gRe_planDraft v0)) (gPl_wheels (gRe_planDraft v0)) (gTi_ints (gRe_tideDraft v0)) (gTi_heights (gRe_tideDraft v0)) (gRe_times v0) (gRe_row v0) ++ W_Te (z_g x) a1 o1 (gTe_ints v1) (gTe_bytes v1)) C eX5_readEnd_42 PX5_46 0 rfl rfl rfl (Nat.le_of_ble_eq_true rfl) rfl ?_
    refine r_aload_n C eX5_readEnd_45 0 rfl rfl ?_
    refine r_iload_n C eX5_readEnd_46 2 rfl rfl ?_
    obtain ⟨r5, hr5, hf⟩ := zbind hf
    refine r_V_v (ws' := W_Re (z_g x) a0 o0 (upd (gRe_ints v0) 7 z4) (r5.1) (r5.2.1) (r5.2.2.1) (r5.2.2.2.1) (r5.2.2.2.2.1) (r5.2.2.2.2.2.1) (r5.2.2.2.2.2.2.1) (r5.2.2.2.2.2.2.2.1) (r5.2.2.2.2.2.2.2.2) (gRe_times v0) (gRe_row v0) ++ W_Te (z_g x) a1 o1 (gTe_ints v1) (gTe_bytes v1)) C (c_Re_store (z_l x) (z_g x) a0 o0 ((upd (gRe_ints v0) 7 z4), (gRe_quayDraft v0), (gRe_planDraft v0), (gRe_tideDraft v0), (gRe_times v0), (gRe_row v0)) p1 r5 hr5) eX5_readEnd_47 MX5_105 ⟨0, 5, _, _, rfl, rfl, rfl⟩ [0, 1, 2, 3, 4, 5, 6, 7, 8, 9, 10, 11] rfl rfl rfl rfl [12, 13] rfl ⟨rfl, rfl, trivial⟩ 14 rfl rfl rfl rfl rfl rfl ?_
    refine r_aload_n C eX5_readEnd_50 0 rfl rfl ?_
    refine r_get (v := .ref (a0 (o0 + 1))) C eX5_readEnd_51 FX5_32 0 rfl rfl ?_
    refine r_iload_n C eX5_readEnd_54 2 rfl rfl ?_
    refine r_dup2 C eX5_readEnd_55 rfl rfl ?_
    obtain ⟨hb6, hf⟩ := zchk hf
    refine r_iald C eX5_readEnd_56 1 rfl (inb_in hb6) ((gRe_times v0) (ix p1)) rfl ?_
    refine r_iconst C (v := 1) eX5_readEnd_57 (by decide) ?_
    refine r_iadd C eX5_readEnd_58 ?_
    obtain ⟨z7, hz7, hf⟩ := zlet_of hf
    refine r_nami hz7 ?_
    obtain ⟨hb8, hf⟩ := zchk hf
    refine r_iast (ws' := W_Re (z_g x) a0 o0 (upd (gRe_ints v0) 7 z4) (r5.1) (r5.2.1) (r5.2.2.1) (r5.2.2.2.1) (r5.2.2.2.2.1) (r5.2.2.2.2.2.1) (r5.2.2.2.2.2.2.1) (r5.2.2.2.2.2.2.2.1) (r5.2.2.2.2.2.2.2.2) (upd (gRe_times v0) (ix p1) z7) (gRe_row v0) ++ W_Te (z_g x) a1 o1 (gTe_ints v1) (gTe_bytes v1)) C eX5_readEnd_59 1 rfl (inb_in hb8) rfl ?_
    obtain rfl := Option.some.inj (show some (((upd (gRe_ints v0) 7 z4), (r5.1), (r5.2.1), (r5.2.2.1), (r5.2.2.2.1), (r5.2.2.2.2.1), (r5.2.2.2.2.2.1), (r5.2.2.2.2.2.2.1), (r5.2.2.2.2.2.2.2.1), (r5.2.2.2.2.2.2.2.2), (upd (gRe_times v0) (ix p1) z7)) : (Nat → Int32) × (Nat → Int32) × (Nat → Int32) × (Nat → Int32) × (Nat → Int32) × (Nat → Int32) × (Nat → Int32) × (Nat → Int32) × (Nat → Int32) × (Nat → Int32) × (Nat → Int32)) = some _ from hf)
    exact hret _ _ _ eX5_readEnd_60
  · rw [if_neg c3] at hf
    refine r_aload_n C eX5_readEnd_25 0 rfl rfl ?_
    refine r_iconst C (v := 1) eX5_readEnd_26 (by decide) ?_
    refine r_aload_n C eX5_readEnd_27 0 rfl rfl ?_
    refine r_get (v := .int r1) C eX5_readEnd_28 FX5_46 0 rfl rfl ?_
    obtain ⟨r9, hr9, hf⟩ := zlet_of hf
    refine r_V_v (ws' := W_Re (z_g x) a0 o0 r9 (gQu_ints (gRe_quayDraft v0)) (gQu_places (gRe_quayDraft v0)) (gQu_strengths (gRe_quayDraft v0)) (gPl_ints (gRe_planDraft v0)) (gPl_seconds (gRe_planDraft v0)) (gPl_engines (gRe_planDraft v0)) (gPl_wheels (gRe_planDraft v0)) (gTi_ints (gRe_tideDraft v0)) (gTi_heights (gRe_tideDraft v0)) (gRe_times v0) (gRe_row v0) ++ W_Te (z_g x) a1 o1 (gTe_ints v1) (gTe_bytes v1)) C (c_Re_fail (z_l x) (z_g x) a0 o0 ((upd (gRe_ints v0) 7 r1), (gRe_quayDraft v0), (gRe_planDraft v0), (gRe_tideDraft v0), (gRe_times v0), (gRe_row v0)) 1 r1 r9 hr9) eX5_readEnd_31 MX5_74 ⟨0, 5, _, _, rfl, rfl, rfl⟩ [0, 1, 2, 3, 4, 5, 6, 7, 8, 9, 10, 11] rfl rfl rfl rfl [12, 13] rfl ⟨rfl, rfl, trivial⟩ 14 rfl rfl rfl rfl rfl rfl ?_
    obtain rfl := Option.some.inj (show some ((r9, (gQu_ints (gRe_quayDraft v0)), (gQu_places (gRe_quayDraft v0)), (gQu_strengths (gRe_quayDraft v0)), (gPl_ints (gRe_planDraft v0)), (gPl_seconds (gRe_planDraft v0)), (gPl_engines (gRe_planDraft v0)), (gPl_wheels (gRe_planDraft v0)), (gTi_ints (gRe_tideDraft v0)), (gTi_heights (gRe_tideDraft v0)), (gRe_times v0)) : (Nat → Int32) × (Nat → Int32) × (Nat → Int32) × (Nat → Int32) × (Nat → Int32) × (Nat → Int32) × (Nat → Int32) × (Nat → Int32) × (Nat → Int32) × (Nat → Int32) × (Nat → Int32)) = some _ from hf)
    exact hret _ _ _ eX5_readEnd_34
