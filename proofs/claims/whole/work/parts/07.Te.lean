theorem eX8_append_0 : zd 1 cX8_append 0 1 (.iload_n 1) := ⟨by decide +kernel, rfl⟩
theorem eX8_append_1 : zd 1 cX8_append 1 2 (.iconst 1) := ⟨by decide +kernel, rfl⟩
theorem eX8_append_2 : zd 1 cX8_append 2 3 (.isub) := ⟨by decide +kernel, rfl⟩
theorem eX8_append_3 : zd 2 cX8_append 3 5 (.istore 4) := ⟨by decide +kernel, rfl⟩
theorem eX8_append_5 : zd 2 cX8_append 5 7 (.iload 4) := ⟨by decide +kernel, rfl⟩
theorem eX8_append_7 : zdi cX8_append 7 10 57 (.ifCond .lt) := ⟨50, by decide +kernel, rfl, by decide⟩
theorem eX8_append_10 : zd 1 cX8_append 10 11 (.aload_n 0) := ⟨by decide +kernel, rfl⟩
theorem eX8_append_11 : zd 3 cX8_append 11 14 (.getfield 13) := ⟨by decide +kernel, rfl⟩
theorem eX8_append_14 : zd 3 cX8_append 14 17 (.sipush 300) := ⟨by decide +kernel, rfl⟩
theorem eX8_append_17 : zdi cX8_append 17 20 57 (.if_icmp .ge) := ⟨40, by decide +kernel, rfl, by decide⟩
theorem eX8_append_20 : zd 1 cX8_append 20 21 (.aload_n 0) := ⟨by decide +kernel, rfl⟩
theorem eX8_append_21 : zd 3 cX8_append 21 24 (.getfield 9) := ⟨by decide +kernel, rfl⟩
theorem eX8_append_24 : zd 1 cX8_append 24 25 (.aload_n 0) := ⟨by decide +kernel, rfl⟩
theorem eX8_append_25 : zd 3 cX8_append 25 28 (.getfield 13) := ⟨by decide +kernel, rfl⟩
theorem eX8_append_28 : zd 1 cX8_append 28 29 (.lload_n 2) := ⟨by decide +kernel, rfl⟩
theorem eX8_append_29 : zd 2 cX8_append 29 31 (.bipush 8) := ⟨by decide +kernel, rfl⟩
theorem eX8_append_31 : zd 2 cX8_append 31 33 (.iload 4) := ⟨by decide +kernel, rfl⟩
theorem eX8_append_33 : zd 1 cX8_append 33 34 (.imul) := ⟨by decide +kernel, rfl⟩
theorem eX8_append_34 : zd 1 cX8_append 34 35 (.lshr) := ⟨by decide +kernel, rfl⟩
theorem eX8_append_35 : zd 1 cX8_append 35 36 (.l2i) := ⟨by decide +kernel, rfl⟩
theorem eX8_append_36 : zd 3 cX8_append 36 39 (.sipush 255) := ⟨by decide +kernel, rfl⟩
theorem eX8_append_39 : zd 1 cX8_append 39 40 (.iand) := ⟨by decide +kernel, rfl⟩
theorem eX8_append_40 : zd 1 cX8_append 40 41 (.iastore) := ⟨by decide +kernel, rfl⟩
theorem eX8_append_41 : zd 1 cX8_append 41 42 (.aload_n 0) := ⟨by decide +kernel, rfl⟩
theorem eX8_append_42 : zd 1 cX8_append 42 43 (.dup) := ⟨by decide +kernel, rfl⟩
theorem eX8_append_43 : zd 3 cX8_append 43 46 (.getfield 13) := ⟨by decide +kernel, rfl⟩
theorem eX8_append_46 : zd 1 cX8_append 46 47 (.iconst 1) := ⟨by decide +kernel, rfl⟩
theorem eX8_append_47 : zd 1 cX8_append 47 48 (.iadd) := ⟨by decide +kernel, rfl⟩
theorem eX8_append_48 : zd 3 cX8_append 48 51 (.putfield 13) := ⟨by decide +kernel, rfl⟩
theorem eX8_append_51 : zd 3 cX8_append 51 54 (.iinc 4 (-1)) := ⟨by decide +kernel, rfl⟩
theorem eX8_append_54 : zdi cX8_append 54 57 5 (.goto) := ⟨(-49), by decide +kernel, rfl, by decide⟩
theorem eX8_append_57 : zd 1 cX8_append 57 58 (.return_) := ⟨by decide +kernel, rfl⟩
theorem FX8_9 : zlF RX8 9 8 0 := ⟨(RX8, TX8, 2), rfl, by decide, q33, zin8⟩
theorem FX8_13 : zlF RX8 13 8 1 := ⟨(RX8, TX8, 2), rfl, by decide, q34, zin8⟩
theorem PX8_13 : zlP RX8 13 8 1 .int := ⟨(RX8, TX8, 2), tyX8, rfl, by decide, q34, zin8, tyX8_ok, nmX8, rfl, by decide +kernel⟩
noncomputable def fB_Te_append_5 (p2 : Int64) (ih : (Int32 × (Nat → Int32) × (Nat → Int32)) → Option (Int32 × (Nat → Int32) × (Nat → Int32))) (s2 : Int32 × (Nat → Int32) × (Nat → Int32)) : Option (Int32 × (Nat → Int32) × (Nat → Int32)) := (if (s2.1) < 0 then (some ((s2.1), (s2.2.1), (s2.2.2))) else (if 300 ≤ ((s2.2.1) 1) then (some ((s2.1), (s2.2.1), (s2.2.2))) else (zlet ((p2 >>> ((8 * (s2.1)).toInt64 &&& 63)).toInt32 &&& 255) (fun (z9 : Int32) => (if inb ((s2.2.1) 1) 300 = true then (zlet (((s2.2.1) 1) + 1) (fun (z11 : Int32) => (ih (((s2.1) + (-1)), (upd (s2.2.1) 1 z11), (upd (s2.2.2) (ix ((s2.2.1) 1)) z9))))) else none)))))
noncomputable def f_Te_append (v0 : tTe) (p1 : Int32) (p2 : Int64) : Option ((Nat → Int32) × (Nat → Int32)) := (zlet (p1 - 1) (fun (z1 : Int32) => (Option.bind (lp (fB_Te_append_5 p2) LF (z1, (gTe_ints v0), (gTe_bytes v0))) (fun (q3 : Int32 × (Nat → Int32) × (Nat → Int32)) => (some ((q3.2.1), (q3.2.2)))))))
abbrev rm_Te_append : Room := { frames := 0, cells := 0, slots := 0, locals := 0 }
set_option maxHeartbeats 4000000 in
set_option maxRecDepth 100000 in
theorem c_Te_append (l : Launch) (g : zGl) (a0 : Nat → Nat) (o0 : Nat) (v0 : tTe) (p1 : Int32) (p2 : Int64) (out : (Nat → Int32) × (Nat → Int32)) (hf : f_Te_append v0 p1 p2 = some out) : zMv l yX8_append cX8_append 5 rm_Te_append g [.ref (a0 o0), .int p1, .long p2] (W_Te g a0 o0 (gTe_ints v0) (gTe_bytes v0))  (W_Te g a0 o0 (out.1) (out.2)) := by
  refine zMv_of (lv := [(0, .ref (a0 o0)), (1, .int p1), (2, .long p2)]) (by decide) (Nat.le_of_ble_eq_true rfl) rfl (fun x hl hg C hret => ?_)
  subst hl; subst hg
  rw [f_Te_append] at hf
  refine r_iload_n C eX8_append_0 1 rfl rfl ?_
  refine r_iconst C (v := 1) eX8_append_1 (by decide) ?_
  refine r_isub C eX8_append_2 ?_
  obtain ⟨z1, hz1, hf⟩ := zlet_of hf
  refine r_nami hz1 ?_
  refine r_istore C [(4, .int z1), (0, .ref (a0 o0)), (1, .int p1), (2, .long p2)] eX8_append_3 (by decide) rfl ?_
  obtain ⟨q3, h4, hf⟩ := zbind hf
  have J5 : vV x 5 0 0 (W_Te (z_g x) a0 o0 (q3.2.1) (q3.2.2)) 57 [] [] := by
    obtain rfl := Option.some.inj (show some (((q3.2.1), (q3.2.2)) : (Nat → Int32) × (Nat → Int32)) = some _ from hf)
    exact hret _ _ _ eX8_append_57
  have L6 : ∀ (nL6 : Nat) (s2 : Int32 × (Nat → Int32) × (Nat → Int32)), lp (fB_Te_append_5 p2) nL6 s2 = some q3 → vV x 5 0 0 (W_Te (z_g x) a0 o0 (s2.2.1) (s2.2.2)) 5 [(0, .ref (a0 o0)), (2, .long p2), (4, .int (s2.1))] [] := by
    intro nL6
    induction nL6 with
    | zero => intro s2 hq; cases hq
    | succ nL6 ihL6 =>
      intro s2 hbL6
      rw [lp_succ, fB_Te_append_5] at hbL6
      refine r_iload C eX8_append_5 2 rfl ?_
      refine r_if_lt C eX8_append_7 (fun c7 => ?_) (fun c7 => ?_)
      · rw [if_pos c7] at hbL6
        obtain rfl := Option.some.inj hbL6
        refine r_sub (lv' := []) [] rfl ?_
        exact J5
      · rw [if_neg c7] at hbL6
        refine r_aload_n C eX8_append_10 0 rfl rfl ?_
        refine r_get (v := .int ((s2.2.1) 1)) C eX8_append_11 FX8_13 0 rfl rfl ?_
        refine r_sipush C (v := 300) eX8_append_14 (by decide) ?_
        refine r_icmp_ge C eX8_append_17 (fun c8 => ?_) (fun c8 => ?_)
        · rw [if_pos c8] at hbL6
          obtain rfl := Option.some.inj hbL6
          refine r_sub (lv' := []) [] rfl ?_
          exact J5
        · rw [if_neg c8] at hbL6
          refine r_aload_n C eX8_append_20 0 rfl rfl ?_
          refine r_get (v := .ref (a0 (o0 + 1))) C eX8_append_21 FX8_9 0 rfl rfl ?_
          refine r_aload_n C eX8_append_24 0 rfl rfl ?_
          refine r_get (v := .int ((s2.2.1) 1)) C eX8_append_25 FX8_13 0 rfl rfl ?_
          refine r_lload_n C eX8_append_28 1 rfl rfl ?_
          refine r_bipush C (v := 8) eX8_append_29 (by decide) ?_
          refine r_iload C eX8_append_31 2 rfl ?_
          refine r_imul C eX8_append_33 ?_
          refine r_lshr C eX8_append_34 ?_
          refine r_l2i C eX8_append_35 ?_
          refine r_sipush C (v := 255) eX8_append_36 (by decide) ?_
          refine r_iand C eX8_append_39 ?_
          obtain ⟨z9, hz9, hbL6⟩ := zlet_of hbL6
          refine r_nami hz9 ?_
          obtain ⟨hb10, hbL6⟩ := zchk hbL6
          refine r_iast (ws' := W_Te (z_g x) a0 o0 (s2.2.1) (upd (s2.2.2) (ix ((s2.2.1) 1)) z9)) C eX8_append_40 1 rfl (inb_in hb10) rfl ?_
          refine r_aload_n C eX8_append_41 0 rfl rfl ?_
          refine r_dup C eX8_append_42 rfl ?_
          refine r_get (v := .int ((s2.2.1) 1)) C eX8_append_43 FX8_13 0 rfl rfl ?_
          refine r_iconst C (v := 1) eX8_append_46 (by decide) ?_
          refine r_iadd C eX8_append_47 ?_
          obtain ⟨z11, hz11, hbL6⟩ := zlet_of hbL6
          refine r_nami hz11 ?_
          refine r_put (ws' := W_Te (z_g x) a0 o0 (upd (s2.2.1) 1 z11) (upd (s2.2.2) (ix ((s2.2.1) 1)) z9)) C eX8_append_48 PX8_13 0 rfl rfl rfl (Nat.le_of_ble_eq_true rfl) rfl ?_
          refine r_iinc C (v := ((s2.1) + (-1))) [(4, .int ((s2.1) + (-1))), (0, .ref (a0 o0)), (2, .long p2)] eX8_append_51 2 rfl rfl (by decide) rfl ?_
          refine r_goto C eX8_append_54 ?_
          refine r_sub (lv' := [(0, .ref (a0 o0)), (2, .long p2), (4, .int ((s2.1) + (-1)))]) [1, 2, 0] rfl ?_
          have hc := ihL6 (((s2.1) + (-1)), (upd (s2.2.1) 1 z11), (upd (s2.2.2) (ix ((s2.2.1) 1)) z9)) hbL6
          exact hc
  refine r_sub (lv' := [(0, .ref (a0 o0)), (2, .long p2), (4, .int z1)]) [1, 3, 0] rfl ?_
  have hc := L6 LF (z1, (gTe_ints v0), (gTe_bytes v0)) h4
  exact hc
theorem eX8_byteAt_0 : zd 1 cX8_byteAt 0 1 (.iload_n 1) := ⟨by decide +kernel, rfl⟩
theorem eX8_byteAt_1 : zdi cX8_byteAt 1 4 28 (.ifCond .lt) := ⟨27, by decide +kernel, rfl, by decide⟩
theorem eX8_byteAt_4 : zd 1 cX8_byteAt 4 5 (.iload_n 1) := ⟨by decide +kernel, rfl⟩
theorem eX8_byteAt_5 : zd 1 cX8_byteAt 5 6 (.aload_n 0) := ⟨by decide +kernel, rfl⟩
theorem eX8_byteAt_6 : zd 3 cX8_byteAt 6 9 (.getfield 13) := ⟨by decide +kernel, rfl⟩
theorem eX8_byteAt_9 : zdi cX8_byteAt 9 12 28 (.if_icmp .ge) := ⟨19, by decide +kernel, rfl, by decide⟩
theorem eX8_byteAt_12 : zd 1 cX8_byteAt 12 13 (.iload_n 1) := ⟨by decide +kernel, rfl⟩
theorem eX8_byteAt_13 : zd 3 cX8_byteAt 13 16 (.sipush 300) := ⟨by decide +kernel, rfl⟩
theorem eX8_byteAt_16 : zdi cX8_byteAt 16 19 28 (.if_icmp .ge) := ⟨12, by decide +kernel, rfl, by decide⟩
theorem eX8_byteAt_19 : zd 1 cX8_byteAt 19 20 (.aload_n 0) := ⟨by decide +kernel, rfl⟩
theorem eX8_byteAt_20 : zd 3 cX8_byteAt 20 23 (.getfield 9) := ⟨by decide +kernel, rfl⟩
theorem eX8_byteAt_23 : zd 1 cX8_byteAt 23 24 (.iload_n 1) := ⟨by decide +kernel, rfl⟩
theorem eX8_byteAt_24 : zd 1 cX8_byteAt 24 25 (.iaload) := ⟨by decide +kernel, rfl⟩
theorem eX8_byteAt_25 : zdi cX8_byteAt 25 28 29 (.goto) := ⟨4, by decide +kernel, rfl, by decide⟩
theorem eX8_byteAt_28 : zd 1 cX8_byteAt 28 29 (.iconst 0) := ⟨by decide +kernel, rfl⟩
theorem eX8_byteAt_29 : zd 1 cX8_byteAt 29 30 (.ireturn) := ⟨by decide +kernel, rfl⟩
noncomputable def f_Te_byteAt (v0 : tTe) (p1 : Int32) : Option (Int32) := (if p1 < 0 then (some 0) else (if ((gTe_ints v0) 1) ≤ p1 then (some 0) else (if 300 ≤ p1 then (some 0) else (if inb p1 300 = true then (some ((gTe_bytes v0) (ix p1))) else none))))
abbrev rm_Te_byteAt : Room := { frames := 0, cells := 0, slots := 0, locals := 0 }
set_option maxHeartbeats 4000000 in
set_option maxRecDepth 100000 in
theorem c_Te_byteAt (l : Launch) (g : zGl) (a0 : Nat → Nat) (o0 : Nat) (v0 : tTe) (p1 : Int32) (out : Int32) (hf : f_Te_byteAt v0 p1 = some out) : zMi l yX8_byteAt cX8_byteAt 2 rm_Te_byteAt g [.ref (a0 o0), .int p1] (W_Te g a0 o0 (gTe_ints v0) (gTe_bytes v0)) out (W_Te g a0 o0 (gTe_ints v0) (gTe_bytes v0)) := by
  refine zMi_of (lv := [(0, .ref (a0 o0)), (1, .int p1)]) (by decide) (Nat.le_of_ble_eq_true rfl) rfl (fun x hl hg C hret => ?_)
  subst hl; subst hg
  rw [f_Te_byteAt] at hf
  refine r_iload_n C eX8_byteAt_0 1 rfl rfl ?_
  refine r_if_lt C eX8_byteAt_1 (fun c1 => ?_) (fun c1 => ?_)
  · rw [if_pos c1] at hf
    refine r_iconst C (v := 0) eX8_byteAt_28 (by decide) ?_
    obtain rfl := Option.some.inj (show some (0 : Int32) = some _ from hf)
    exact hret _ _ _ eX8_byteAt_29
  · rw [if_neg c1] at hf
    refine r_iload_n C eX8_byteAt_4 1 rfl rfl ?_
    refine r_aload_n C eX8_byteAt_5 0 rfl rfl ?_
    refine r_get (v := .int ((gTe_ints v0) 1)) C eX8_byteAt_6 FX8_13 0 rfl rfl ?_
    refine r_icmp_ge C eX8_byteAt_9 (fun c2 => ?_) (fun c2 => ?_)
    · rw [if_pos c2] at hf
      refine r_iconst C (v := 0) eX8_byteAt_28 (by decide) ?_
      obtain rfl := Option.some.inj (show some (0 : Int32) = some _ from hf)
      exact hret _ _ _ eX8_byteAt_29
    · rw [if_neg c2] at hf
      refine r_iload_n C eX8_byteAt_12 1 rfl rfl ?_
      refine r_sipush C (v := 300) eX8_byteAt_13 (by decide) ?_
      refine r_icmp_ge C eX8_byteAt_16 (fun c3 => ?_) (fun c3 => ?_)
      · rw [if_pos c3] at hf
        refine r_iconst C (v := 0) eX8_byteAt_28 (by decide) ?_
        obtain rfl := Option.some.inj (show some (0 : Int32) = some _ from hf)
        exact hret _ _ _ eX8_byteAt_29
      · rw [if_neg c3] at hf
        refine r_aload_n C eX8_byteAt_19 0 rfl rfl ?_
        refine r_get (v := .ref (a0 (o0 + 1))) C eX8_byteAt_20 FX8_9 0 rfl rfl ?_
        refine r_iload_n C eX8_byteAt_23 1 rfl rfl ?_
        obtain ⟨hb4, hf⟩ := zchk hf
        refine r_iald C eX8_byteAt_24 1 rfl (inb_in hb4) ((gTe_bytes v0) (ix p1)) rfl ?_
        refine r_goto C eX8_byteAt_25 ?_
        obtain rfl := Option.some.inj (show some (((gTe_bytes v0) (ix p1)) : Int32) = some _ from hf)
        exact hret _ _ _ eX8_byteAt_29
theorem eX8_behindBlanks_0 : zd 1 cX8_behindBlanks 0 1 (.iload_n 1) := ⟨by decide +kernel, rfl⟩
theorem eX8_behindBlanks_1 : zd 1 cX8_behindBlanks 1 2 (.istore_n 2) := ⟨by decide +kernel, rfl⟩
theorem eX8_behindBlanks_2 : zd 1 cX8_behindBlanks 2 3 (.iload_n 2) := ⟨by decide +kernel, rfl⟩
theorem eX8_behindBlanks_3 : zd 1 cX8_behindBlanks 3 4 (.aload_n 0) := ⟨by decide +kernel, rfl⟩
theorem eX8_behindBlanks_4 : zd 3 cX8_behindBlanks 4 7 (.getfield 13) := ⟨by decide +kernel, rfl⟩
theorem eX8_behindBlanks_7 : zdi cX8_behindBlanks 7 10 26 (.if_icmp .ge) := ⟨19, by decide +kernel, rfl, by decide⟩
theorem eX8_behindBlanks_10 : zd 1 cX8_behindBlanks 10 11 (.aload_n 0) := ⟨by decide +kernel, rfl⟩
theorem eX8_behindBlanks_11 : zd 1 cX8_behindBlanks 11 12 (.iload_n 2) := ⟨by decide +kernel, rfl⟩
theorem eX8_behindBlanks_12 : zd 3 cX8_behindBlanks 12 15 (.invokevirtual 17) := ⟨by decide +kernel, rfl⟩
theorem eX8_behindBlanks_15 : zd 2 cX8_behindBlanks 15 17 (.bipush 32) := ⟨by decide +kernel, rfl⟩
theorem eX8_behindBlanks_17 : zdi cX8_behindBlanks 17 20 26 (.if_icmp .ne) := ⟨9, by decide +kernel, rfl, by decide⟩
theorem eX8_behindBlanks_20 : zd 3 cX8_behindBlanks 20 23 (.iinc 2 1) := ⟨by decide +kernel, rfl⟩
theorem eX8_behindBlanks_23 : zdi cX8_behindBlanks 23 26 2 (.goto) := ⟨(-21), by decide +kernel, rfl, by decide⟩
theorem eX8_behindBlanks_26 : zd 1 cX8_behindBlanks 26 27 (.iload_n 2) := ⟨by decide +kernel, rfl⟩
theorem eX8_behindBlanks_27 : zd 1 cX8_behindBlanks 27 28 (.ireturn) := ⟨by decide +kernel, rfl⟩
theorem MX8_17 : zlV RX8 17 yX8_byteAt cX8_byteAt 2 ((Option.some FieldType.int)) 1 := ⟨q447, q448, q449, q2, q450, by decide, by decide, by decide +kernel⟩
noncomputable def fB_Te_behindBlanks_2 (v0 : tTe) (ih : (Int32) → Option (Int32)) (s1 : Int32) : Option (Int32) := (if ((gTe_ints v0) 1) ≤ s1 then (some s1) else (Option.bind (f_Te_byteAt v0 s1) (fun (r7 : Int32) => (if r7 = 32 then (ih (s1 + 1)) else (some s1)))))
noncomputable def f_Te_behindBlanks (v0 : tTe) (p1 : Int32) : Option (Int32) := (Option.bind (lp (fB_Te_behindBlanks_2 v0) LF p1) (fun (q2 : Int32) => (some q2)))
abbrev rm_Te_behindBlanks : Room := { frames := 1, cells := 0, slots := 0, locals := 21 }
set_option maxHeartbeats 4000000 in
set_option maxRecDepth 100000 in
theorem c_Te_behindBlanks (l : Launch) (g : zGl) (a0 : Nat → Nat) (o0 : Nat) (v0 : tTe) (p1 : Int32) (out : Int32) (hf : f_Te_behindBlanks v0 p1 = some out) : zMi l yX8_behindBlanks cX8_behindBlanks 3 rm_Te_behindBlanks g [.ref (a0 o0), .int p1] (W_Te g a0 o0 (gTe_ints v0) (gTe_bytes v0)) out (W_Te g a0 o0 (gTe_ints v0) (gTe_bytes v0)) := by
  refine zMi_of (lv := [(0, .ref (a0 o0)), (1, .int p1)]) (by decide) (Nat.le_of_ble_eq_true rfl) rfl (fun x hl hg C hret => ?_)
  subst hl; subst hg
  rw [f_Te_behindBlanks] at hf
  refine r_iload_n C eX8_behindBlanks_0 1 rfl rfl ?_
  refine r_istore_n C [(2, .int p1), (0, .ref (a0 o0)), (1, .int p1)] eX8_behindBlanks_1 rfl (by decide) rfl ?_
  obtain ⟨q2, h3, hf⟩ := zbind hf
  have J4 : vV x 3 0 0 (W_Te (z_g x) a0 o0 (gTe_ints v0) (gTe_bytes v0)) 26 [(2, .int q2)] [] := by
    refine r_iload_n C eX8_behindBlanks_26 0 rfl rfl ?_
    obtain rfl := Option.some.inj (show some (q2 : Int32) = some _ from hf)
    exact hret _ _ _ eX8_behindBlanks_27
  have L5 : ∀ (nL5 : Nat) (s1 : Int32), lp (fB_Te_behindBlanks_2 v0) nL5 s1 = some q2 → vV x 3 0 0 (W_Te (z_g x) a0 o0 (gTe_ints v0) (gTe_bytes v0)) 2 [(0, .ref (a0 o0)), (2, .int s1)] [] := by
    intro nL5
    induction nL5 with
    | zero => intro s1 hq; cases hq
    | succ nL5 ihL5 =>
      intro s1 hbL5
      rw [lp_succ, fB_Te_behindBlanks_2] at hbL5
      refine r_iload_n C eX8_behindBlanks_2 1 rfl rfl ?_
      refine r_aload_n C eX8_behindBlanks_3 0 rfl rfl ?_
      refine r_get (v := .int ((gTe_ints v0) 1)) C eX8_behindBlanks_4 FX8_13 0 rfl rfl ?_
      refine r_icmp_ge C eX8_behindBlanks_7 (fun c6 => ?_) (fun c6 => ?_)
      · rw [if_pos c6] at hbL5
        obtain rfl := Option.some.inj hbL5
        refine r_sub (lv' := [(2, .int s1)]) [1] rfl ?_
        exact J4
      · rw [if_neg c6] at hbL5
        refine r_aload_n C eX8_behindBlanks_10 0 rfl rfl ?_
        refine r_iload_n C eX8_behindBlanks_11 1 rfl rfl ?_
        obtain ⟨r7, hr7, hbL5⟩ := zbind hbL5
        refine r_V_i (ws' := W_Te (z_g x) a0 o0 (gTe_ints v0) (gTe_bytes v0)) C (c_Te_byteAt (z_l x) (z_g x) a0 o0 v0 s1 r7 hr7) eX8_behindBlanks_12 MX8_17 ⟨0, 8, _, _, rfl, rfl, rfl⟩ [0, 1] rfl rfl rfl rfl [] rfl trivial 2 rfl rfl rfl rfl rfl rfl ?_
        refine r_bipush C (v := 32) eX8_behindBlanks_15 (by decide) ?_
        refine r_icmp_ne C eX8_behindBlanks_17 (fun c8 => ?_) (fun c8 => ?_)
        · rw [if_neg c8] at hbL5
          obtain rfl := Option.some.inj hbL5
          refine r_sub (lv' := [(2, .int s1)]) [1] rfl ?_
          exact J4
        · rw [if_pos c8] at hbL5
          refine r_iinc C (v := (s1 + 1)) [(2, .int (s1 + 1)), (0, .ref (a0 o0))] eX8_behindBlanks_20 1 rfl rfl (by decide) rfl ?_
          refine r_goto C eX8_behindBlanks_23 ?_
          refine r_sub (lv' := [(0, .ref (a0 o0)), (2, .int (s1 + 1))]) [1, 0] rfl ?_
          have hc := ihL5 (s1 + 1) hbL5
          exact hc
  refine r_sub (lv' := [(0, .ref (a0 o0)), (2, .int p1)]) [1, 0] rfl ?_
  have hc := L5 LF p1 h3
  exact hc
theorem eX8_isFigure_0 : zd 1 cX8_isFigure 0 1 (.iload_n 0) := ⟨by decide +kernel, rfl⟩
theorem eX8_isFigure_1 : zd 2 cX8_isFigure 1 3 (.bipush 48) := ⟨by decide +kernel, rfl⟩
theorem eX8_isFigure_3 : zdi cX8_isFigure 3 6 16 (.if_icmp .lt) := ⟨13, by decide +kernel, rfl, by decide⟩
theorem eX8_isFigure_6 : zd 1 cX8_isFigure 6 7 (.iload_n 0) := ⟨by decide +kernel, rfl⟩
theorem eX8_isFigure_7 : zd 2 cX8_isFigure 7 9 (.bipush 57) := ⟨by decide +kernel, rfl⟩
theorem eX8_isFigure_9 : zdi cX8_isFigure 9 12 16 (.if_icmp .gt) := ⟨7, by decide +kernel, rfl, by decide⟩
theorem eX8_isFigure_12 : zd 1 cX8_isFigure 12 13 (.iconst 1) := ⟨by decide +kernel, rfl⟩
theorem eX8_isFigure_13 : zdi cX8_isFigure 13 16 17 (.goto) := ⟨4, by decide +kernel, rfl, by decide⟩
theorem eX8_isFigure_16 : zd 1 cX8_isFigure 16 17 (.iconst 0) := ⟨by decide +kernel, rfl⟩
theorem eX8_isFigure_17 : zd 1 cX8_isFigure 17 18 (.ireturn) := ⟨by decide +kernel, rfl⟩
noncomputable def f_Te_isFigure  (p1 : Int32) : Int32 := (if p1 < 48 then 0 else (if 57 < p1 then 0 else 1))
abbrev rm_Te_isFigure : Room := { frames := 0, cells := 0, slots := 0, locals := 0 }
set_option maxHeartbeats 4000000 in
set_option maxRecDepth 100000 in
theorem c_Te_isFigure (l : Launch) (g : zGl)  (p1 : Int32) (out : Int32) (hf : f_Te_isFigure p1 = out) : zMz l yX8_isFigure cX8_isFigure 1 rm_Te_isFigure g [.int p1] ([]) out ([]) := by
  refine zMz_of (lv := [(0, .int p1)]) (by decide) (Nat.le_of_ble_eq_true rfl) rfl (fun x hl hg C hret => ?_)
  subst hl; subst hg
  rw [f_Te_isFigure] at hf
  refine r_iload_n C eX8_isFigure_0 0 rfl rfl ?_
  refine r_bipush C (v := 48) eX8_isFigure_1 (by decide) ?_
  refine r_icmp_lt C eX8_isFigure_3 (fun c1 => ?_) (fun c1 => ?_)
  · rw [if_pos c1] at hf
    refine r_iconst C (v := 0) eX8_isFigure_16 (by decide) ?_
    subst hf
    exact hret _ _ _ eX8_isFigure_17 zB0
  · rw [if_neg c1] at hf
    refine r_iload_n C eX8_isFigure_6 0 rfl rfl ?_
    refine r_bipush C (v := 57) eX8_isFigure_7 (by decide) ?_
    refine r_icmp_gt C eX8_isFigure_9 (fun c2 => ?_) (fun c2 => ?_)
    · rw [if_pos c2] at hf
      refine r_iconst C (v := 0) eX8_isFigure_16 (by decide) ?_
      subst hf
      exact hret _ _ _ eX8_isFigure_17 zB0
    · rw [if_neg c2] at hf
      refine r_iconst C (v := 1) eX8_isFigure_12 (by decide) ?_
      refine r_goto C eX8_isFigure_13 ?_
      subst hf
      exact hret _ _ _ eX8_isFigure_17 zB1
theorem eX8_behindFigures_0 : zd 1 cX8_behindFigures 0 1 (.iload_n 1) := ⟨by decide +kernel, rfl⟩
theorem eX8_behindFigures_1 : zd 1 cX8_behindFigures 1 2 (.istore_n 2) := ⟨by decide +kernel, rfl⟩
theorem eX8_behindFigures_2 : zd 1 cX8_behindFigures 2 3 (.iload_n 2) := ⟨by decide +kernel, rfl⟩
theorem eX8_behindFigures_3 : zd 1 cX8_behindFigures 3 4 (.aload_n 0) := ⟨by decide +kernel, rfl⟩
theorem eX8_behindFigures_4 : zd 3 cX8_behindFigures 4 7 (.getfield 13) := ⟨by decide +kernel, rfl⟩
theorem eX8_behindFigures_7 : zdi cX8_behindFigures 7 10 27 (.if_icmp .ge) := ⟨20, by decide +kernel, rfl, by decide⟩
theorem eX8_behindFigures_10 : zd 1 cX8_behindFigures 10 11 (.aload_n 0) := ⟨by decide +kernel, rfl⟩
theorem eX8_behindFigures_11 : zd 1 cX8_behindFigures 11 12 (.iload_n 2) := ⟨by decide +kernel, rfl⟩
theorem eX8_behindFigures_12 : zd 3 cX8_behindFigures 12 15 (.invokevirtual 17) := ⟨by decide +kernel, rfl⟩
theorem eX8_behindFigures_15 : zd 3 cX8_behindFigures 15 18 (.invokestatic 25) := ⟨by decide +kernel, rfl⟩
theorem eX8_behindFigures_18 : zdi cX8_behindFigures 18 21 27 (.ifCond .eq) := ⟨9, by decide +kernel, rfl, by decide⟩
theorem eX8_behindFigures_21 : zd 3 cX8_behindFigures 21 24 (.iinc 2 1) := ⟨by decide +kernel, rfl⟩
theorem eX8_behindFigures_24 : zdi cX8_behindFigures 24 27 2 (.goto) := ⟨(-22), by decide +kernel, rfl, by decide⟩
theorem eX8_behindFigures_27 : zd 1 cX8_behindFigures 27 28 (.iload_n 2) := ⟨by decide +kernel, rfl⟩
theorem eX8_behindFigures_28 : zd 1 cX8_behindFigures 28 29 (.ireturn) := ⟨by decide +kernel, rfl⟩
theorem MX8_25 : zlS RX8 25 yX8_isFigure cX8_isFigure 1 ((Option.some FieldType.boolean)) 1 := ⟨q551, q552, q2, q553, by decide, by decide, by decide +kernel⟩
noncomputable def fB_Te_behindFigures_2 (v0 : tTe) (ih : (Int32) → Option (Int32)) (s1 : Int32) : Option (Int32) := (if ((gTe_ints v0) 1) ≤ s1 then (some s1) else (Option.bind (f_Te_byteAt v0 s1) (fun (r7 : Int32) => (if (f_Te_isFigure r7) = 0 then (some s1) else (ih (s1 + 1))))))
noncomputable def f_Te_behindFigures (v0 : tTe) (p1 : Int32) : Option (Int32) := (Option.bind (lp (fB_Te_behindFigures_2 v0) LF p1) (fun (q2 : Int32) => (some q2)))
abbrev rm_Te_behindFigures : Room := { frames := 1, cells := 0, slots := 0, locals := 21 }
set_option maxHeartbeats 4000000 in
set_option maxRecDepth 100000 in
theorem c_Te_behindFigures (l : Launch) (g : zGl) (a0 : Nat → Nat) (o0 : Nat) (v0 : tTe) (p1 : Int32) (out : Int32) (hf : f_Te_behindFigures v0 p1 = some out) : zMi l yX8_behindFigures cX8_behindFigures 3 rm_Te_behindFigures g [.ref (a0 o0), .int p1] (W_Te g a0 o0 (gTe_ints v0) (gTe_bytes v0)) out (W_Te g a0 o0 (gTe_ints v0) (gTe_bytes v0)) := by
  refine zMi_of (lv := [(0, .ref (a0 o0)), (1, .int p1)]) (by decide) (Nat.le_of_ble_eq_true rfl) rfl (fun x hl hg C hret => ?_)
  subst hl; subst hg
  rw [f_Te_behindFigures] at hf
  refine r_iload_n C eX8_behindFigures_0 1 rfl rfl ?_
  refine r_istore_n C [(2, .int p1), (0, .ref (a0 o0)), (1, .int p1)] eX8_behindFigures_1 rfl (by decide) rfl ?_
  obtain ⟨q2, h3, hf⟩ := zbind hf
  have J4 : vV x 3 0 0 (W_Te (z_g x) a0 o0 (gTe_ints v0) (gTe_bytes v0)) 27 [(2, .int q2)] [] := by
    refine r_iload_n C eX8_behindFigures_27 0 rfl rfl ?_
    obtain rfl := Option.some.inj (show some (q2 : Int32) = some _ from hf)
    exact hret _ _ _ eX8_behindFigures_28
  have L5 : ∀ (nL5 : Nat) (s1 : Int32), lp (fB_Te_behindFigures_2 v0) nL5 s1 = some q2 → vV x 3 0 0 (W_Te (z_g x) a0 o0 (gTe_ints v0) (gTe_bytes v0)) 2 [(0, .ref (a0 o0)), (2, .int s1)] [] := by
    intro nL5
    induction nL5 with
    | zero => intro s1 hq; cases hq
    | succ nL5 ihL5 =>
      intro s1 hbL5
      rw [lp_succ, fB_Te_behindFigures_2] at hbL5
      refine r_iload_n C eX8_behindFigures_2 1 rfl rfl ?_
      refine r_aload_n C eX8_behindFigures_3 0 rfl rfl ?_
      refine r_get (v := .int ((gTe_ints v0) 1)) C eX8_behindFigures_4 FX8_13 0 rfl rfl ?_
      refine r_icmp_ge C eX8_behindFigures_7 (fun c6 => ?_) (fun c6 => ?_)
      · rw [if_pos c6] at hbL5
        obtain rfl := Option.some.inj hbL5
        refine r_sub (lv' := [(2, .int s1)]) [1] rfl ?_
        exact J4
      · rw [if_neg c6] at hbL5
        refine r_aload_n C eX8_behindFigures_10 0 rfl rfl ?_
        refine r_iload_n C eX8_behindFigures_11 1 rfl rfl ?_
        obtain ⟨r7, hr7, hbL5⟩ := zbind hbL5
        refine r_V_i (ws' := W_Te (z_g x) a0 o0 (gTe_ints v0) (gTe_bytes v0)) C (c_Te_byteAt (z_l x) (z_g x) a0 o0 v0 s1 r7 hr7) eX8_behindFigures_12 MX8_17 ⟨0, 8, _, _, rfl, rfl, rfl⟩ [0, 1] rfl rfl rfl rfl [] rfl trivial 2 rfl rfl rfl rfl rfl rfl ?_
        refine r_S_z (ws' := W_Te (z_g x) a0 o0 (gTe_ints v0) (gTe_bytes v0)) C (c_Te_isFigure (z_l x) (z_g x)  r7 _ rfl) eX8_behindFigures_15 MX8_25 [] rfl rfl rfl rfl [0, 1] rfl ⟨rfl, rfl, trivial⟩ 2 rfl rfl rfl rfl rfl rfl (fun zb8 => ?_)
        refine r_if_eq C eX8_behindFigures_18 (fun c9 => ?_) (fun c9 => ?_)
        · rw [if_pos c9] at hbL5
          obtain rfl := Option.some.inj hbL5
          refine r_sub (lv' := [(2, .int s1)]) [1] rfl ?_
          exact J4
        · rw [if_neg c9] at hbL5
          refine r_iinc C (v := (s1 + 1)) [(2, .int (s1 + 1)), (0, .ref (a0 o0))] eX8_behindFigures_21 1 rfl rfl (by decide) rfl ?_
          refine r_goto C eX8_behindFigures_24 ?_
          refine r_sub (lv' := [(0, .ref (a0 o0)), (2, .int (s1 + 1))]) [1, 0] rfl ?_
          have hc := ihL5 (s1 + 1) hbL5
          exact hc
  refine r_sub (lv' := [(0, .ref (a0 o0)), (2, .int p1)]) [1, 0] rfl ?_
  have hc := L5 LF p1 h3
  exact hc
theorem eX8_isLetter_0 : zd 1 cX8_isLetter 0 1 (.iload_n 0) := ⟨by decide +kernel, rfl⟩
theorem eX8_isLetter_1 : zd 2 cX8_isLetter 1 3 (.bipush 97) := ⟨by decide +kernel, rfl⟩
theorem eX8_isLetter_3 : zdi cX8_isLetter 3 6 16 (.if_icmp .lt) := ⟨13, by decide +kernel, rfl, by decide⟩
theorem eX8_isLetter_6 : zd 1 cX8_isLetter 6 7 (.iload_n 0) := ⟨by decide +kernel, rfl⟩
theorem eX8_isLetter_7 : zd 2 cX8_isLetter 7 9 (.bipush 122) := ⟨by decide +kernel, rfl⟩
theorem eX8_isLetter_9 : zdi cX8_isLetter 9 12 16 (.if_icmp .gt) := ⟨7, by decide +kernel, rfl, by decide⟩
theorem eX8_isLetter_12 : zd 1 cX8_isLetter 12 13 (.iconst 1) := ⟨by decide +kernel, rfl⟩
theorem eX8_isLetter_13 : zdi cX8_isLetter 13 16 17 (.goto) := ⟨4, by decide +kernel, rfl, by decide⟩
theorem eX8_isLetter_16 : zd 1 cX8_isLetter 16 17 (.iconst 0) := ⟨by decide +kernel, rfl⟩
theorem eX8_isLetter_17 : zd 1 cX8_isLetter 17 18 (.ireturn) := ⟨by decide +kernel, rfl⟩
noncomputable def f_Te_isLetter  (p1 : Int32) : Int32 := (if p1 < 97 then 0 else (if 122 < p1 then 0 else 1))
abbrev rm_Te_isLetter : Room := { frames := 0, cells := 0, slots := 0, locals := 0 }
set_option maxHeartbeats 4000000 in
set_option maxRecDepth 100000 in
theorem c_Te_isLetter (l : Launch) (g : zGl)  (p1 : Int32) (out : Int32) (hf : f_Te_isLetter p1 = out) : zMz l yX8_isLetter cX8_isLetter 1 rm_Te_isLetter g [.int p1] ([]) out ([]) := by
  refine zMz_of (lv := [(0, .int p1)]) (by decide) (Nat.le_of_ble_eq_true rfl) rfl (fun x hl hg C hret => ?_)
  subst hl; subst hg
  rw [f_Te_isLetter] at hf
  refine r_iload_n C eX8_isLetter_0 0 rfl rfl ?_
  refine r_bipush C (v := 97) eX8_isLetter_1 (by decide) ?_
  refine r_icmp_lt C eX8_isLetter_3 (fun c1 => ?_) (fun c1 => ?_)
  · rw [if_pos c1] at hf
    refine r_iconst C (v := 0) eX8_isLetter_16 (by decide) ?_
    subst hf
    exact hret _ _ _ eX8_isLetter_17 zB0
  · rw [if_neg c1] at hf
    refine r_iload_n C eX8_isLetter_6 0 rfl rfl ?_
    refine r_bipush C (v := 122) eX8_isLetter_7 (by decide) ?_
    refine r_icmp_gt C eX8_isLetter_9 (fun c2 => ?_) (fun c2 => ?_)
    · rw [if_pos c2] at hf
      refine r_iconst C (v := 0) eX8_isLetter_16 (by decide) ?_
      subst hf
      exact hret _ _ _ eX8_isLetter_17 zB0
    · rw [if_neg c2] at hf
      refine r_iconst C (v := 1) eX8_isLetter_12 (by decide) ?_
      refine r_goto C eX8_isLetter_13 ?_
      subst hf
      exact hret _ _ _ eX8_isLetter_17 zB1
theorem eX8_behindLetters_0 : zd 1 cX8_behindLetters 0 1 (.iload_n 1) := ⟨by decide +kernel, rfl⟩
theorem eX8_behindLetters_1 : zd 1 cX8_behindLetters 1 2 (.istore_n 2) := ⟨by decide +kernel, rfl⟩
theorem eX8_behindLetters_2 : zd 1 cX8_behindLetters 2 3 (.iload_n 2) := ⟨by decide +kernel, rfl⟩
theorem eX8_behindLetters_3 : zd 1 cX8_behindLetters 3 4 (.aload_n 0) := ⟨by decide +kernel, rfl⟩
theorem eX8_behindLetters_4 : zd 3 cX8_behindLetters 4 7 (.getfield 13) := ⟨by decide +kernel, rfl⟩
theorem eX8_behindLetters_7 : zdi cX8_behindLetters 7 10 27 (.if_icmp .ge) := ⟨20, by decide +kernel, rfl, by decide⟩
theorem eX8_behindLetters_10 : zd 1 cX8_behindLetters 10 11 (.aload_n 0) := ⟨by decide +kernel, rfl⟩
theorem eX8_behindLetters_11 : zd 1 cX8_behindLetters 11 12 (.iload_n 2) := ⟨by decide +kernel, rfl⟩
theorem eX8_behindLetters_12 : zd 3 cX8_behindLetters 12 15 (.invokevirtual 17) := ⟨by decide +kernel, rfl⟩
theorem eX8_behindLetters_15 : zd 3 cX8_behindLetters 15 18 (.invokestatic 21) := ⟨by decide +kernel, rfl⟩
theorem eX8_behindLetters_18 : zdi cX8_behindLetters 18 21 27 (.ifCond .eq) := ⟨9, by decide +kernel, rfl, by decide⟩
theorem eX8_behindLetters_21 : zd 3 cX8_behindLetters 21 24 (.iinc 2 1) := ⟨by decide +kernel, rfl⟩
theorem eX8_behindLetters_24 : zdi cX8_behindLetters 24 27 2 (.goto) := ⟨(-22), by decide +kernel, rfl, by decide⟩
theorem eX8_behindLetters_27 : zd 1 cX8_behindLetters 27 28 (.iload_n 2) := ⟨by decide +kernel, rfl⟩
theorem eX8_behindLetters_28 : zd 1 cX8_behindLetters 28 29 (.ireturn) := ⟨by decide +kernel, rfl⟩
theorem MX8_21 : zlS RX8 21 yX8_isLetter cX8_isLetter 1 ((Option.some FieldType.boolean)) 1 := ⟨q459, q460, q2, q461, by decide, by decide, by decide +kernel⟩
noncomputable def fB_Te_behindLetters_2 (v0 : tTe) (ih : (Int32) → Option (Int32)) (s1 : Int32) : Option (Int32) := (if ((gTe_ints v0) 1) ≤ s1 then (some s1) else (Option.bind (f_Te_byteAt v0 s1) (fun (r7 : Int32) => (if (f_Te_isLetter r7) = 0 then (some s1) else (ih (s1 + 1))))))
noncomputable def f_Te_behindLetters (v0 : tTe) (p1 : Int32) : Option (Int32) := (Option.bind (lp (fB_Te_behindLetters_2 v0) LF p1) (fun (q2 : Int32) => (some q2)))
abbrev rm_Te_behindLetters : Room := { frames := 1, cells := 0, slots := 0, locals := 21 }
set_option maxHeartbeats 4000000 in
set_option maxRecDepth 100000 in
theorem c_Te_behindLetters (l : Launch) (g : zGl) (a0 : Nat → Nat) (o0 : Nat) (v0 : tTe) (p1 : Int32) (out : Int32) (hf : f_Te_behindLetters v0 p1 = some out) : zMi l yX8_behindLetters cX8_behindLetters 3 rm_Te_behindLetters g [.ref (a0 o0), .int p1] (W_Te g a0 o0 (gTe_ints v0) (gTe_bytes v0)) out (W_Te g a0 o0 (gTe_ints v0) (gTe_bytes v0)) := by
  refine zMi_of (lv := [(0, .ref (a0 o0)), (1, .int p1)]) (by decide) (Nat.le_of_ble_eq_true rfl) rfl (fun x hl hg C hret => ?_)
  subst hl; subst hg
  rw [f_Te_behindLetters] at hf
  refine r_iload_n C eX8_behindLetters_0 1 rfl rfl ?_
  refine r_istore_n C [(2, .int p1), (0, .ref (a0 o0)), (1, .int p1)] eX8_behindLetters_1 rfl (by decide) rfl ?_
  obtain ⟨q2, h3, hf⟩ := zbind hf
  have J4 : vV x 3 0 0 (W_Te (z_g x) a0 o0 (gTe_ints v0) (gTe_bytes v0)) 27 [(2, .int q2)] [] := by
    refine r_iload_n C eX8_behindLetters_27 0 rfl rfl ?_
    obtain rfl := Option.some.inj (show some (q2 : Int32) = some _ from hf)
    exact hret _ _ _ eX8_behindLetters_28
  have L5 : ∀ (nL5 : Nat) (s1 : Int32), lp (fB_Te_behindLetters_2 v0) nL5 s1 = some q2 → vV x 3 0 0 (W_Te (z_g x) a0 o0 (gTe_ints v0) (gTe_bytes v0)) 2 [(0, .ref (a0 o0)), (2, .int s1)] [] := by
    intro nL5
    induction nL5 with
    | zero => intro s1 hq; cases hq
    | succ nL5 ihL5 =>
      intro s1 hbL5
      rw [lp_succ, fB_Te_behindLetters_2] at hbL5
      refine r_iload_n C eX8_behindLetters_2 1 rfl rfl ?_
      refine r_aload_n C eX8_behindLetters_3 0 rfl rfl ?_
      refine r_get (v := .int ((gTe_ints v0) 1)) C eX8_behindLetters_4 FX8_13 0 rfl rfl ?_
      refine r_icmp_ge C eX8_behindLetters_7 (fun c6 => ?_) (fun c6 => ?_)
      · rw [if_pos c6] at hbL5
        obtain rfl := Option.some.inj hbL5
        refine r_sub (lv' := [(2, .int s1)]) [1] rfl ?_
        exact J4
      · rw [if_neg c6] at hbL5
        refine r_aload_n C eX8_behindLetters_10 0 rfl rfl ?_
        refine r_iload_n C eX8_behindLetters_11 1 rfl rfl ?_
        obtain ⟨r7, hr7, hbL5⟩ := zbind hbL5
        refine r_V_i (ws' := W_Te (z_g x) a0 o0 (gTe_ints v0) (gTe_bytes v0)) C (c_Te_byteAt (z_l x) (z_g x) a0 o0 v0 s1 r7 hr7) eX8_behindLetters_12 MX8_17 ⟨0, 8, _, _, rfl, rfl, rfl⟩ [0, 1] rfl rfl rfl rfl [] rfl trivial 2 rfl rfl rfl rfl rfl rfl ?_
        refine r_S_z (ws' := W_Te (z_g x) a0 o0 (gTe_ints v0) (gTe_bytes v0)) C (c_Te_isLetter (z_l x) (z_g x)  r7 _ rfl) eX8_behindLetters_15 MX8_21 [] rfl rfl rfl rfl [0, 1] rfl ⟨rfl, rfl, trivial⟩ 2 rfl rfl rfl rfl rfl rfl (fun zb8 => ?_)
        refine r_if_eq C eX8_behindLetters_18 (fun c9 => ?_) (fun c9 => ?_)
        · rw [if_pos c9] at hbL5
          obtain rfl := Option.some.inj hbL5
          refine r_sub (lv' := [(2, .int s1)]) [1] rfl ?_
          exact J4
        · rw [if_neg c9] at hbL5
          refine r_iinc C (v := (s1 + 1)) [(2, .int (s1 + 1)), (0, .ref (a0 o0))] eX8_behindLetters_21 1 rfl rfl (by decide) rfl ?_
          refine r_goto C eX8_behindLetters_24 ?_
          refine r_sub (lv' := [(0, .ref (a0 o0)), (2, .int (s1 + 1))]) [1, 0] rfl ?_
          have hc := ihL5 (s1 + 1) hbL5
          exact hc
  refine r_sub (lv' := [(0, .ref (a0 o0)), (2, .int p1)]) [1, 0] rfl ?_
  have hc := L5 LF p1 h3
  exact hc
