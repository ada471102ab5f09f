theorem eX0_isIn_0 : zd 1 cX0_isIn 0 1 (.iload_n 0) := ⟨by decide +kernel, rfl⟩
theorem eX0_isIn_1 : zd 1 cX0_isIn 1 2 (.iload_n 1) := ⟨by decide +kernel, rfl⟩
theorem eX0_isIn_2 : zd 1 cX0_isIn 2 3 (.ishr) := ⟨by decide +kernel, rfl⟩
theorem eX0_isIn_3 : zd 1 cX0_isIn 3 4 (.iconst 1) := ⟨by decide +kernel, rfl⟩
theorem eX0_isIn_4 : zd 1 cX0_isIn 4 5 (.iand) := ⟨by decide +kernel, rfl⟩
theorem eX0_isIn_5 : zd 1 cX0_isIn 5 6 (.iconst 1) := ⟨by decide +kernel, rfl⟩
theorem eX0_isIn_6 : zdi cX0_isIn 6 9 13 (.if_icmp .ne) := ⟨7, by decide +kernel, rfl, by decide⟩
theorem eX0_isIn_9 : zd 1 cX0_isIn 9 10 (.iconst 1) := ⟨by decide +kernel, rfl⟩
theorem eX0_isIn_10 : zdi cX0_isIn 10 13 14 (.goto) := ⟨4, by decide +kernel, rfl, by decide⟩
theorem eX0_isIn_13 : zd 1 cX0_isIn 13 14 (.iconst 0) := ⟨by decide +kernel, rfl⟩
theorem eX0_isIn_14 : zd 1 cX0_isIn 14 15 (.ireturn) := ⟨by decide +kernel, rfl⟩
noncomputable def f_Lg_isIn  (p1 : Int32) (p2 : Int32) : Int32 := (if ((p1 >>> (p2 &&& 31)) &&& 1) = 1 then 1 else 0)
abbrev rm_Lg_isIn : Room := { frames := 0, cells := 0, slots := 0, locals := 0 }
set_option maxHeartbeats 4000000 in
set_option maxRecDepth 100000 in
theorem c_Lg_isIn (l : Launch) (g : zGl)  (p1 : Int32) (p2 : Int32) (out : Int32) (hf : f_Lg_isIn p1 p2 = out) : zMz l yX0_isIn cX0_isIn 2 rm_Lg_isIn g [.int p1, .int p2] ([]) out ([]) := by
  refine zMz_of (lv := [(0, .int p1), (1, .int p2)]) (by decide) (Nat.le_of_ble_eq_true rfl) rfl (fun x hl hg C hret => ?_)
  subst hl; subst hg
  rw [f_Lg_isIn] at hf
  refine r_iload_n C eX0_isIn_0 0 rfl rfl ?_
  refine r_iload_n C eX0_isIn_1 1 rfl rfl ?_
  refine r_ishr C eX0_isIn_2 ?_
  refine r_iconst C (v := 1) eX0_isIn_3 (by decide) ?_
  refine r_iand C eX0_isIn_4 ?_
  refine r_iconst C (v := 1) eX0_isIn_5 (by decide) ?_
  refine r_icmp_ne C eX0_isIn_6 (fun c1 => ?_) (fun c1 => ?_)
  · rw [if_neg c1] at hf
    refine r_iconst C (v := 0) eX0_isIn_13 (by decide) ?_
    subst hf
    exact hret _ _ _ eX0_isIn_14 zB0
  · rw [if_pos c1] at hf
    refine r_iconst C (v := 1) eX0_isIn_9 (by decide) ?_
    refine r_goto C eX0_isIn_10 ?_
    subst hf
    exact hret _ _ _ eX0_isIn_14 zB1
theorem eX0_bestAfterOne_0 : zd 1 cX0_bestAfterOne 0 1 (.iconst (-1)) := ⟨by decide +kernel, rfl⟩
theorem eX0_bestAfterOne_1 : zd 1 cX0_bestAfterOne 1 2 (.istore_n 2) := ⟨by decide +kernel, rfl⟩
theorem eX0_bestAfterOne_2 : zd 1 cX0_bestAfterOne 2 3 (.iconst 0) := ⟨by decide +kernel, rfl⟩
theorem eX0_bestAfterOne_3 : zd 1 cX0_bestAfterOne 3 4 (.istore_n 3) := ⟨by decide +kernel, rfl⟩
theorem eX0_bestAfterOne_4 : zd 1 cX0_bestAfterOne 4 5 (.iload_n 3) := ⟨by decide +kernel, rfl⟩
theorem eX0_bestAfterOne_5 : zd 2 cX0_bestAfterOne 5 7 (.bipush 6) := ⟨by decide +kernel, rfl⟩
theorem eX0_bestAfterOne_7 : zdi cX0_bestAfterOne 7 10 58 (.if_icmp .ge) := ⟨51, by decide +kernel, rfl, by decide⟩
theorem eX0_bestAfterOne_10 : zd 1 cX0_bestAfterOne 10 11 (.iload_n 1) := ⟨by decide +kernel, rfl⟩
theorem eX0_bestAfterOne_11 : zd 1 cX0_bestAfterOne 11 12 (.iload_n 3) := ⟨by decide +kernel, rfl⟩
theorem eX0_bestAfterOne_12 : zd 3 cX0_bestAfterOne 12 15 (.invokestatic 73) := ⟨by decide +kernel, rfl⟩
theorem eX0_bestAfterOne_15 : zdi cX0_bestAfterOne 15 18 52 (.ifCond .eq) := ⟨37, by decide +kernel, rfl, by decide⟩
theorem eX0_bestAfterOne_18 : zd 1 cX0_bestAfterOne 18 19 (.iload_n 2) := ⟨by decide +kernel, rfl⟩
theorem eX0_bestAfterOne_19 : zd 1 cX0_bestAfterOne 19 20 (.iconst (-1)) := ⟨by decide +kernel, rfl⟩
theorem eX0_bestAfterOne_20 : zdi cX0_bestAfterOne 20 23 39 (.if_icmp .eq) := ⟨19, by decide +kernel, rfl, by decide⟩
theorem eX0_bestAfterOne_23 : zd 1 cX0_bestAfterOne 23 24 (.aload_n 0) := ⟨by decide +kernel, rfl⟩
theorem eX0_bestAfterOne_24 : zd 3 cX0_bestAfterOne 24 27 (.getfield 20) := ⟨by decide +kernel, rfl⟩
theorem eX0_bestAfterOne_27 : zd 1 cX0_bestAfterOne 27 28 (.iload_n 1) := ⟨by decide +kernel, rfl⟩
theorem eX0_bestAfterOne_28 : zd 1 cX0_bestAfterOne 28 29 (.iconst 1) := ⟨by decide +kernel, rfl⟩
theorem eX0_bestAfterOne_29 : zd 1 cX0_bestAfterOne 29 30 (.iload_n 3) := ⟨by decide +kernel, rfl⟩
theorem eX0_bestAfterOne_30 : zd 1 cX0_bestAfterOne 30 31 (.ishl) := ⟨by decide +kernel, rfl⟩
theorem eX0_bestAfterOne_31 : zd 1 cX0_bestAfterOne 31 32 (.iconst (-1)) := ⟨by decide +kernel, rfl⟩
theorem eX0_bestAfterOne_32 : zd 1 cX0_bestAfterOne 32 33 (.ixor) := ⟨by decide +kernel, rfl⟩
theorem eX0_bestAfterOne_33 : zd 1 cX0_bestAfterOne 33 34 (.iand) := ⟨by decide +kernel, rfl⟩
theorem eX0_bestAfterOne_34 : zd 1 cX0_bestAfterOne 34 35 (.iaload) := ⟨by decide +kernel, rfl⟩
theorem eX0_bestAfterOne_35 : zd 1 cX0_bestAfterOne 35 36 (.iload_n 2) := ⟨by decide +kernel, rfl⟩
theorem eX0_bestAfterOne_36 : zdi cX0_bestAfterOne 36 39 52 (.if_icmp .ge) := ⟨16, by decide +kernel, rfl, by decide⟩
theorem eX0_bestAfterOne_39 : zd 1 cX0_bestAfterOne 39 40 (.aload_n 0) := ⟨by decide +kernel, rfl⟩
theorem eX0_bestAfterOne_40 : zd 3 cX0_bestAfterOne 40 43 (.getfield 20) := ⟨by decide +kernel, rfl⟩
theorem eX0_bestAfterOne_43 : zd 1 cX0_bestAfterOne 43 44 (.iload_n 1) := ⟨by decide +kernel, rfl⟩
theorem eX0_bestAfterOne_44 : zd 1 cX0_bestAfterOne 44 45 (.iconst 1) := ⟨by decide +kernel, rfl⟩
theorem eX0_bestAfterOne_45 : zd 1 cX0_bestAfterOne 45 46 (.iload_n 3) := ⟨by decide +kernel, rfl⟩
theorem eX0_bestAfterOne_46 : zd 1 cX0_bestAfterOne 46 47 (.ishl) := ⟨by decide +kernel, rfl⟩
theorem eX0_bestAfterOne_47 : zd 1 cX0_bestAfterOne 47 48 (.iconst (-1)) := ⟨by decide +kernel, rfl⟩
theorem eX0_bestAfterOne_48 : zd 1 cX0_bestAfterOne 48 49 (.ixor) := ⟨by decide +kernel, rfl⟩
theorem eX0_bestAfterOne_49 : zd 1 cX0_bestAfterOne 49 50 (.iand) := ⟨by decide +kernel, rfl⟩
theorem eX0_bestAfterOne_50 : zd 1 cX0_bestAfterOne 50 51 (.iaload) := ⟨by decide +kernel, rfl⟩
theorem eX0_bestAfterOne_51 : zd 1 cX0_bestAfterOne 51 52 (.istore_n 2) := ⟨by decide +kernel, rfl⟩
theorem eX0_bestAfterOne_52 : zd 3 cX0_bestAfterOne 52 55 (.iinc 3 1) := ⟨by decide +kernel, rfl⟩
theorem eX0_bestAfterOne_55 : zdi cX0_bestAfterOne 55 58 4 (.goto) := ⟨(-51), by decide +kernel, rfl, by decide⟩
theorem eX0_bestAfterOne_58 : zd 1 cX0_bestAfterOne 58 59 (.iload_n 2) := ⟨by decide +kernel, rfl⟩
theorem eX0_bestAfterOne_59 : zd 1 cX0_bestAfterOne 59 60 (.ireturn) := ⟨by decide +kernel, rfl⟩
theorem FX0_20 : zlF RX0 20 0 2 := ⟨(RX0, TX0, 4), rfl, by decide, q341, zin0⟩
theorem MX0_73 : zlS RX0 73 yX0_isIn cX0_isIn 2 ((Option.some FieldType.boolean)) 2 := ⟨q1008, q1009, q11, q1010, by decide, by decide, by decide +kernel⟩
noncomputable def fB_Lg_bestAfterOne_4 (v0 : tLg) (p1 : Int32) (ih : (Int32 × Int32) → Option (Int32 × Int32)) (s1 : Int32 × Int32) : Option (Int32 × Int32) := (if 6 ≤ (s1.2) then (some ((s1.1), (s1.2))) else (if (f_Lg_isIn p1 (s1.2)) = 0 then (ih ((s1.1), ((s1.2) + 1))) else (if (s1.1) = (-1) then (if inb (p1 &&& ((1 <<< ((s1.2) &&& 31)) ^^^ (-1))) 64 = true then (zlet ((gLg_best v0) (ix (p1 &&& ((1 <<< ((s1.2) &&& 31)) ^^^ (-1))))) (fun (z11 : Int32) => (ih (z11, ((s1.2) + 1))))) else none) else (if inb (p1 &&& ((1 <<< ((s1.2) &&& 31)) ^^^ (-1))) 64 = true then (if (s1.1) ≤ ((gLg_best v0) (ix (p1 &&& ((1 <<< ((s1.2) &&& 31)) ^^^ (-1))))) then (ih ((s1.1), ((s1.2) + 1))) else (if inb (p1 &&& ((1 <<< ((s1.2) &&& 31)) ^^^ (-1))) 64 = true then (zlet ((gLg_best v0) (ix (p1 &&& ((1 <<< ((s1.2) &&& 31)) ^^^ (-1))))) (fun (z15 : Int32) => (ih (z15, ((s1.2) + 1))))) else none)) else none))))
noncomputable def f_Lg_bestAfterOne (v0 : tLg) (p1 : Int32) : Option (Int32) := (Option.bind (lp (fB_Lg_bestAfterOne_4 v0 p1) LF ((-1), 0)) (fun (q2 : Int32 × Int32) => (some (q2.1))))
abbrev rm_Lg_bestAfterOne : Room := { frames := 1, cells := 0, slots := 0, locals := 21 }
set_option maxHeartbeats 4000000 in
set_option maxRecDepth 100000 in
theorem c_Lg_bestAfterOne (l : Launch) (g : zGl) (a0 : Nat → Nat) (o0 : Nat) (v0 : tLg) (p1 : Int32) (out : Int32) (hf : f_Lg_bestAfterOne v0 p1 = some out) : zMi l yX0_bestAfterOne cX0_bestAfterOne 4 rm_Lg_bestAfterOne g [.ref (a0 o0), .int p1] (W_Lg g a0 o0 (gLg_ints v0) (gLg_shares v0) (gLg_strengths v0) (gLg_best v0)) out (W_Lg g a0 o0 (gLg_ints v0) (gLg_shares v0) (gLg_strengths v0) (gLg_best v0)) := by
  refine zMi_of (lv := [(0, .ref (a0 o0)), (1, .int p1)]) (by decide) (Nat.le_of_ble_eq_true rfl) rfl (fun x hl hg C hret => ?_)
  subst hl; subst hg
  rw [f_Lg_bestAfterOne] at hf
  refine r_iconst C (v := (-1)) eX0_bestAfterOne_0 (by decide) ?_
  refine r_istore_n C [(2, .int (-1)), (0, .ref (a0 o0)), (1, .int p1)] eX0_bestAfterOne_1 rfl (by decide) rfl ?_
  refine r_iconst C (v := 0) eX0_bestAfterOne_2 (by decide) ?_
  refine r_istore_n C [(3, .int 0), (2, .int (-1)), (0, .ref (a0 o0)), (1, .int p1)] eX0_bestAfterOne_3 rfl (by decide) rfl ?_
  obtain ⟨q2, h3, hf⟩ := zbind hf
  have J4 : vV x 4 0 0 (W_Lg (z_g x) a0 o0 (gLg_ints v0) (gLg_shares v0) (gLg_strengths v0) (gLg_best v0)) 58 [(2, .int (q2.1))] [] := by
    refine r_iload_n C eX0_bestAfterOne_58 0 rfl rfl ?_
    obtain rfl := Option.some.inj (show some ((q2.1) : Int32) = some _ from hf)
    exact hret _ _ _ eX0_bestAfterOne_59
  have L5 : ∀ (nL5 : Nat) (s1 : Int32 × Int32), lp (fB_Lg_bestAfterOne_4 v0 p1) nL5 s1 = some q2 → vV x 4 0 0 (W_Lg (z_g x) a0 o0 (gLg_ints v0) (gLg_shares v0) (gLg_strengths v0) (gLg_best v0)) 4 [(0, .ref (a0 o0)), (1, .int p1), (2, .int (s1.1)), (3, .int (s1.2))] [] := by
    intro nL5
    induction nL5 with
    | zero => intro s1 hq; cases hq
    | succ nL5 ihL5 =>
      intro s1 hbL5
      rw [lp_succ, fB_Lg_bestAfterOne_4] at hbL5
      refine r_iload_n C eX0_bestAfterOne_4 3 rfl rfl ?_
      refine r_bipush C (v := 6) eX0_bestAfterOne_5 (by decide) ?_
      refine r_icmp_ge C eX0_bestAfterOne_7 (fun c6 => ?_) (fun c6 => ?_)
      · rw [if_pos c6] at hbL5
        obtain rfl := Option.some.inj hbL5
        refine r_sub (lv' := [(2, .int (s1.1))]) [2] rfl ?_
        exact J4
      · rw [if_neg c6] at hbL5
        refine r_iload_n C eX0_bestAfterOne_10 1 rfl rfl ?_
        refine r_iload_n C eX0_bestAfterOne_11 3 rfl rfl ?_
        refine r_S_z (ws' := W_Lg (z_g x) a0 o0 (gLg_ints v0) (gLg_shares v0) (gLg_strengths v0) (gLg_best v0)) C (c_Lg_isIn (z_l x) (z_g x)  p1 (s1.2) _ rfl) eX0_bestAfterOne_12 MX0_73 [] rfl rfl rfl rfl [0, 1, 2, 3] rfl ⟨rfl, rfl, rfl, rfl, trivial⟩ 4 rfl rfl rfl rfl rfl rfl (fun zb7 => ?_)
        refine r_if_eq C eX0_bestAfterOne_15 (fun c8 => ?_) (fun c8 => ?_)
        · rw [if_pos c8] at hbL5
          refine r_iinc C (v := ((s1.2) + 1)) [(3, .int ((s1.2) + 1)), (0, .ref (a0 o0)), (1, .int p1), (2, .int (s1.1))] eX0_bestAfterOne_52 3 rfl rfl (by decide) rfl ?_
          refine r_goto C eX0_bestAfterOne_55 ?_
          refine r_sub (lv' := [(0, .ref (a0 o0)), (1, .int p1), (2, .int (s1.1)), (3, .int ((s1.2) + 1))]) [1, 2, 3, 0] rfl ?_
          have hc := ihL5 ((s1.1), ((s1.2) + 1)) hbL5
          exact hc
        · rw [if_neg c8] at hbL5
          refine r_iload_n C eX0_bestAfterOne_18 2 rfl rfl ?_
          refine r_iconst C (v := (-1)) eX0_bestAfterOne_19 (by decide) ?_
          refine r_icmp_eq C eX0_bestAfterOne_20 (fun c9 => ?_) (fun c9 => ?_)
          · rw [if_pos c9] at hbL5
            refine r_aload_n C eX0_bestAfterOne_39 0 rfl rfl ?_
            refine r_get (v := .ref (a0 (o0 + 3))) C eX0_bestAfterOne_40 FX0_20 0 rfl rfl ?_
            refine r_iload_n C eX0_bestAfterOne_43 1 rfl rfl ?_
            refine r_iconst C (v := 1) eX0_bestAfterOne_44 (by decide) ?_
            refine r_iload_n C eX0_bestAfterOne_45 3 rfl rfl ?_
            refine r_ishl C eX0_bestAfterOne_46 ?_
            refine r_iconst C (v := (-1)) eX0_bestAfterOne_47 (by decide) ?_
            refine r_ixor C eX0_bestAfterOne_48 ?_
            refine r_iand C eX0_bestAfterOne_49 ?_
            obtain ⟨hb10, hbL5⟩ := zchk hbL5
            refine r_iald C eX0_bestAfterOne_50 3 rfl (inb_in hb10) ((gLg_best v0) (ix (p1 &&& ((1 <<< ((s1.2) &&& 31)) ^^^ (-1))))) rfl ?_
            obtain ⟨z11, hz11, hbL5⟩ := zlet_of hbL5
            refine r_nami hz11 ?_
            refine r_istore_n C [(2, .int z11), (0, .ref (a0 o0)), (1, .int p1), (3, .int (s1.2))] eX0_bestAfterOne_51 rfl (by decide) rfl ?_
            refine r_iinc C (v := ((s1.2) + 1)) [(3, .int ((s1.2) + 1)), (2, .int z11), (0, .ref (a0 o0)), (1, .int p1)] eX0_bestAfterOne_52 3 rfl rfl (by decide) rfl ?_
            refine r_goto C eX0_bestAfterOne_55 ?_
            refine r_sub (lv' := [(0, .ref (a0 o0)), (1, .int p1), (2, .int z11), (3, .int ((s1.2) + 1))]) [2, 3, 1, 0] rfl ?_
            have hc := ihL5 (z11, ((s1.2) + 1)) hbL5
            exact hc
          · rw [if_neg c9] at hbL5
            refine r_aload_n C eX0_bestAfterOne_23 0 rfl rfl ?_
            refine r_get (v := .ref (a0 (o0 + 3))) C eX0_bestAfterOne_24 FX0_20 0 rfl rfl ?_
            refine r_iload_n C eX0_bestAfterOne_27 1 rfl rfl ?_
            refine r_iconst C (v := 1) eX0_bestAfterOne_28 (by decide) ?_
            refine r_iload_n C eX0_bestAfterOne_29 3 rfl rfl ?_
            refine r_ishl C eX0_bestAfterOne_30 ?_
            refine r_iconst C (v := (-1)) eX0_bestAfterOne_31 (by decide) ?_
            refine r_ixor C eX0_bestAfterOne_32 ?_
            refine r_iand C eX0_bestAfterOne_33 ?_
            obtain ⟨hb12, hbL5⟩ := zchk hbL5
            refine r_iald C eX0_bestAfterOne_34 3 rfl (inb_in hb12) ((gLg_best v0) (ix (p1 &&& ((1 <<< ((s1.2) &&& 31)) ^^^ (-1))))) rfl ?_
            refine r_iload_n C eX0_bestAfterOne_35 2 rfl rfl ?_
            refine r_icmp_ge C eX0_bestAfterOne_36 (fun c13 => ?_) (fun c13 => ?_)
            · rw [if_pos c13] at hbL5
              refine r_iinc C (v := ((s1.2) + 1)) [(3, .int ((s1.2) + 1)), (0, .ref (a0 o0)), (1, .int p1), (2, .int (s1.1))] eX0_bestAfterOne_52 3 rfl rfl (by decide) rfl ?_
              refine r_goto C eX0_bestAfterOne_55 ?_
              refine r_sub (lv' := [(0, .ref (a0 o0)), (1, .int p1), (2, .int (s1.1)), (3, .int ((s1.2) + 1))]) [1, 2, 3, 0] rfl ?_
              have hc := ihL5 ((s1.1), ((s1.2) + 1)) hbL5
              exact hc
            · rw [if_neg c13] at hbL5
              refine r_aload_n C eX0_bestAfterOne_39 0 rfl rfl ?_
              refine r_get (v := .ref (a0 (o0 + 3))) C eX0_bestAfterOne_40 FX0_20 0 rfl rfl ?_
              refine r_iload_n C eX0_bestAfterOne_43 1 rfl rfl ?_
              refine r_iconst C (v := 1) eX0_bestAfterOne_44 (by decide) ?_
              refine r_iload_n C eX0_bestAfterOne_45 3 rfl rfl ?_
              refine r_ishl C eX0_bestAfterOne_46 ?_
              refine r_iconst C (v := (-1)) eX0_bestAfterOne_47 (by decide) ?_
              refine r_ixor C eX0_bestAfterOne_48 ?_
              refine r_iand C eX0_bestAfterOne_49 ?_
              obtain ⟨hb14, hbL5⟩ := zchk hbL5
              refine r_iald C eX0_bestAfterOne_50 3 rfl (inb_in hb14) ((gLg_best v0) (ix (p1 &&& ((1 <<< ((s1.2) &&& 31)) ^^^ (-1))))) rfl ?_
              obtain ⟨z15, hz15, hbL5⟩ := zlet_of hbL5
              refine r_nami hz15 ?_
              refine r_istore_n C [(2, .int z15), (0, .ref (a0 o0)), (1, .int p1), (3, .int (s1.2))] eX0_bestAfterOne_51 rfl (by decide) rfl ?_
              refine r_iinc C (v := ((s1.2) + 1)) [(3, .int ((s1.2) + 1)), (2, .int z15), (0, .ref (a0 o0)), (1, .int p1)] eX0_bestAfterOne_52 3 rfl rfl (by decide) rfl ?_
              refine r_goto C eX0_bestAfterOne_55 ?_
              refine r_sub (lv' := [(0, .ref (a0 o0)), (1, .int p1), (2, .int z15), (3, .int ((s1.2) + 1))]) [2, 3, 1, 0] rfl ?_
              have hc := ihL5 (z15, ((s1.2) + 1)) hbL5
              exact hc
  refine r_sub (lv' := [(0, .ref (a0 o0)), (1, .int p1), (2, .int (-1)), (3, .int 0)]) [2, 3, 1, 0] rfl ?_
  have hc := L5 LF ((-1), 0) h3
  exact hc
theorem eX0_firstToGo_0 : zd 1 cX0_firstToGo 0 1 (.iconst 0) := ⟨by decide +kernel, rfl⟩
theorem eX0_firstToGo_1 : zd 1 cX0_firstToGo 1 2 (.istore_n 2) := ⟨by decide +kernel, rfl⟩
theorem eX0_firstToGo_2 : zd 1 cX0_firstToGo 2 3 (.iload_n 2) := ⟨by decide +kernel, rfl⟩
theorem eX0_firstToGo_3 : zd 2 cX0_firstToGo 3 5 (.bipush 6) := ⟨by decide +kernel, rfl⟩
theorem eX0_firstToGo_5 : zdi cX0_firstToGo 5 8 48 (.if_icmp .ge) := ⟨43, by decide +kernel, rfl, by decide⟩
theorem eX0_firstToGo_8 : zd 1 cX0_firstToGo 8 9 (.iload_n 1) := ⟨by decide +kernel, rfl⟩
theorem eX0_firstToGo_9 : zd 1 cX0_firstToGo 9 10 (.iload_n 2) := ⟨by decide +kernel, rfl⟩
theorem eX0_firstToGo_10 : zd 3 cX0_firstToGo 10 13 (.invokestatic 73) := ⟨by decide +kernel, rfl⟩
theorem eX0_firstToGo_13 : zdi cX0_firstToGo 13 16 42 (.ifCond .eq) := ⟨29, by decide +kernel, rfl, by decide⟩
theorem eX0_firstToGo_16 : zd 1 cX0_firstToGo 16 17 (.aload_n 0) := ⟨by decide +kernel, rfl⟩
theorem eX0_firstToGo_17 : zd 3 cX0_firstToGo 17 20 (.getfield 20) := ⟨by decide +kernel, rfl⟩
theorem eX0_firstToGo_20 : zd 1 cX0_firstToGo 20 21 (.iload_n 1) := ⟨by decide +kernel, rfl⟩
theorem eX0_firstToGo_21 : zd 1 cX0_firstToGo 21 22 (.iconst 1) := ⟨by decide +kernel, rfl⟩
theorem eX0_firstToGo_22 : zd 1 cX0_firstToGo 22 23 (.iload_n 2) := ⟨by decide +kernel, rfl⟩
theorem eX0_firstToGo_23 : zd 1 cX0_firstToGo 23 24 (.ishl) := ⟨by decide +kernel, rfl⟩
theorem eX0_firstToGo_24 : zd 1 cX0_firstToGo 24 25 (.iconst (-1)) := ⟨by decide +kernel, rfl⟩
theorem eX0_firstToGo_25 : zd 1 cX0_firstToGo 25 26 (.ixor) := ⟨by decide +kernel, rfl⟩
theorem eX0_firstToGo_26 : zd 1 cX0_firstToGo 26 27 (.iand) := ⟨by decide +kernel, rfl⟩
theorem eX0_firstToGo_27 : zd 1 cX0_firstToGo 27 28 (.iaload) := ⟨by decide +kernel, rfl⟩
theorem eX0_firstToGo_28 : zd 1 cX0_firstToGo 28 29 (.aload_n 0) := ⟨by decide +kernel, rfl⟩
theorem eX0_firstToGo_29 : zd 3 cX0_firstToGo 29 32 (.getfield 20) := ⟨by decide +kernel, rfl⟩
theorem eX0_firstToGo_32 : zd 1 cX0_firstToGo 32 33 (.aload_n 0) := ⟨by decide +kernel, rfl⟩
theorem eX0_firstToGo_33 : zd 3 cX0_firstToGo 33 36 (.getfield 23) := ⟨by decide +kernel, rfl⟩
theorem eX0_firstToGo_36 : zd 1 cX0_firstToGo 36 37 (.iaload) := ⟨by decide +kernel, rfl⟩
theorem eX0_firstToGo_37 : zdi cX0_firstToGo 37 40 42 (.if_icmp .gt) := ⟨5, by decide +kernel, rfl, by decide⟩
theorem eX0_firstToGo_40 : zd 1 cX0_firstToGo 40 41 (.iload_n 2) := ⟨by decide +kernel, rfl⟩
theorem eX0_firstToGo_41 : zd 1 cX0_firstToGo 41 42 (.ireturn) := ⟨by decide +kernel, rfl⟩
theorem eX0_firstToGo_42 : zd 3 cX0_firstToGo 42 45 (.iinc 2 1) := ⟨by decide +kernel, rfl⟩
theorem eX0_firstToGo_45 : zdi cX0_firstToGo 45 48 2 (.goto) := ⟨(-43), by decide +kernel, rfl, by decide⟩
theorem eX0_firstToGo_48 : zd 1 cX0_firstToGo 48 49 (.iconst 0) := ⟨by decide +kernel, rfl⟩
theorem eX0_firstToGo_49 : zd 1 cX0_firstToGo 49 50 (.ireturn) := ⟨by decide +kernel, rfl⟩
theorem FX0_23 : zlF RX0 23 0 3 := ⟨(RX0, TX0, 4), rfl, by decide, q342, zin0⟩
noncomputable def fB_Lg_firstToGo_2 (v0 : tLg) (p1 : Int32) (ih : (Int32) → Option ((Int32) ⊕ (Int32))) (s1 : Int32) : Option ((Int32) ⊕ (Int32)) := (if 6 ≤ s1 then (some (Sum.inr s1)) else (if (f_Lg_isIn p1 s1) = 0 then (ih (s1 + 1)) else (if inb (p1 &&& ((1 <<< (s1 &&& 31)) ^^^ (-1))) 64 = true then (if inb ((gLg_ints v0) 3) 64 = true then (if ((gLg_best v0) (ix ((gLg_ints v0) 3))) < ((gLg_best v0) (ix (p1 &&& ((1 <<< (s1 &&& 31)) ^^^ (-1))))) then (ih (s1 + 1)) else (some (Sum.inl s1))) else none) else none)))
noncomputable def f_Lg_firstToGo (v0 : tLg) (p1 : Int32) : Option (Int32) := (Option.bind (lp (fB_Lg_firstToGo_2 v0 p1) LF 0) (fun (q2 : (Int32) ⊕ (Int32)) => Sum.elim (fun r => (some r)) (fun (s1e : Int32) => (some 0)) q2))
abbrev rm_Lg_firstToGo : Room := { frames := 1, cells := 0, slots := 0, locals := 21 }
set_option maxHeartbeats 4000000 in
set_option maxRecDepth 100000 in
theorem c_Lg_firstToGo (l : Launch) (g : zGl) (a0 : Nat → Nat) (o0 : Nat) (v0 : tLg) (p1 : Int32) (out : Int32) (hf : f_Lg_firstToGo v0 p1 = some out) : zMi l yX0_firstToGo cX0_firstToGo 3 rm_Lg_firstToGo g [.ref (a0 o0), .int p1] (W_Lg g a0 o0 (gLg_ints v0) (gLg_shares v0) (gLg_strengths v0) (gLg_best v0)) out (W_Lg g a0 o0 (gLg_ints v0) (gLg_shares v0) (gLg_strengths v0) (gLg_best v0)) := by
  refine zMi_of (lv := [(0, .ref (a0 o0)), (1, .int p1)]) (by decide) (Nat.le_of_ble_eq_true rfl) rfl (fun x hl hg C hret => ?_)
  subst hl; subst hg
  rw [f_Lg_firstToGo] at hf
  refine r_iconst C (v := 0) eX0_firstToGo_0 (by decide) ?_
  refine r_istore_n C [(2, .int 0), (0, .ref (a0 o0)), (1, .int p1)] eX0_firstToGo_1 rfl (by decide) rfl ?_
  obtain ⟨q2, h3, hf⟩ := zbind hf
  have J4 : ∀ s1e : Int32, q2 = Sum.inr s1e → vV x 3 0 0 (W_Lg (z_g x) a0 o0 (gLg_ints v0) (gLg_shares v0) (gLg_strengths v0) (gLg_best v0)) 48 [] [] := by
    intro s1e hs
    subst hs
    rw [Sum.elim_inr] at hf
    refine r_iconst C (v := 0) eX0_firstToGo_48 (by decide) ?_
    obtain rfl := Option.some.inj (show some (0 : Int32) = some _ from hf)
    exact hret _ _ _ eX0_firstToGo_49
  have L5 : ∀ (nL5 : Nat) (s1 : Int32), lp (fB_Lg_firstToGo_2 v0 p1) nL5 s1 = some q2 → vV x 3 0 0 (W_Lg (z_g x) a0 o0 (gLg_ints v0) (gLg_shares v0) (gLg_strengths v0) (gLg_best v0)) 2 [(0, .ref (a0 o0)), (1, .int p1), (2, .int s1)] [] := by
    intro nL5
    induction nL5 with
    | zero => intro s1 hq; cases hq
    | succ nL5 ihL5 =>
      intro s1 hbL5
      rw [lp_succ, fB_Lg_firstToGo_2] at hbL5
      refine r_iload_n C eX0_firstToGo_2 2 rfl rfl ?_
      refine r_bipush C (v := 6) eX0_firstToGo_3 (by decide) ?_
      refine r_icmp_ge C eX0_firstToGo_5 (fun c6 => ?_) (fun c6 => ?_)
      · rw [if_pos c6] at hbL5
        obtain rfl := Option.some.inj hbL5
        refine r_sub (lv' := []) [] rfl ?_
        exact J4 _ rfl
      · rw [if_neg c6] at hbL5
        refine r_iload_n C eX0_firstToGo_8 1 rfl rfl ?_
        refine r_iload_n C eX0_firstToGo_9 2 rfl rfl ?_
        refine r_S_z (ws' := W_Lg (z_g x) a0 o0 (gLg_ints v0) (gLg_shares v0) (gLg_strengths v0) (gLg_best v0)) C (c_Lg_isIn (z_l x) (z_g x)  p1 s1 _ rfl) eX0_firstToGo_10 MX0_73 [] rfl rfl rfl rfl [0, 1, 2, 3] rfl ⟨rfl, rfl, rfl, rfl, trivial⟩ 4 rfl rfl rfl rfl rfl rfl (fun zb7 => ?_)
        refine r_if_eq C eX0_firstToGo_13 (fun c8 => ?_) (fun c8 => ?_)
        · rw [if_pos c8] at hbL5
          refine r_iinc C (v := (s1 + 1)) [(2, .int (s1 + 1)), (0, .ref (a0 o0)), (1, .int p1)] eX0_firstToGo_42 2 rfl rfl (by decide) rfl ?_
          refine r_goto C eX0_firstToGo_45 ?_
          refine r_sub (lv' := [(0, .ref (a0 o0)), (1, .int p1), (2, .int (s1 + 1))]) [1, 2, 0] rfl ?_
          have hc := ihL5 (s1 + 1) hbL5
          exact hc
        · rw [if_neg c8] at hbL5
          refine r_aload_n C eX0_firstToGo_16 0 rfl rfl ?_
          refine r_get (v := .ref (a0 (o0 + 3))) C eX0_firstToGo_17 FX0_20 0 rfl rfl ?_
          refine r_iload_n C eX0_firstToGo_20 1 rfl rfl ?_
          refine r_iconst C (v := 1) eX0_firstToGo_21 (by decide) ?_
          refine r_iload_n C eX0_firstToGo_22 2 rfl rfl ?_
          refine r_ishl C eX0_firstToGo_23 ?_
          refine r_iconst C (v := (-1)) eX0_firstToGo_24 (by decide) ?_
          refine r_ixor C eX0_firstToGo_25 ?_
          refine r_iand C eX0_firstToGo_26 ?_
          obtain ⟨hb9, hbL5⟩ := zchk hbL5
          refine r_iald C eX0_firstToGo_27 3 rfl (inb_in hb9) ((gLg_best v0) (ix (p1 &&& ((1 <<< (s1 &&& 31)) ^^^ (-1))))) rfl ?_
          refine r_aload_n C eX0_firstToGo_28 0 rfl rfl ?_
          refine r_get (v := .ref (a0 (o0 + 3))) C eX0_firstToGo_29 FX0_20 0 rfl rfl ?_
          refine r_aload_n C eX0_firstToGo_32 0 rfl rfl ?_
          refine r_get (v := .int ((gLg_ints v0) 3)) C eX0_firstToGo_33 FX0_23 0 rfl rfl ?_
          obtain ⟨hb10, hbL5⟩ := zchk hbL5
          refine r_iald C eX0_firstToGo_36 3 rfl (inb_in hb10) ((gLg_best v0) (ix ((gLg_ints v0) 3))) rfl ?_
          refine r_icmp_gt C eX0_firstToGo_37 (fun c11 => ?_) (fun c11 => ?_)
          · rw [if_pos c11] at hbL5
            refine r_iinc C (v := (s1 + 1)) [(2, .int (s1 + 1)), (0, .ref (a0 o0)), (1, .int p1)] eX0_firstToGo_42 2 rfl rfl (by decide) rfl ?_
            refine r_goto C eX0_firstToGo_45 ?_
            refine r_sub (lv' := [(0, .ref (a0 o0)), (1, .int p1), (2, .int (s1 + 1))]) [1, 2, 0] rfl ?_
            have hc := ihL5 (s1 + 1) hbL5
            exact hc
          · rw [if_neg c11] at hbL5
            refine r_iload_n C eX0_firstToGo_40 2 rfl rfl ?_
            obtain rfl := Option.some.inj (show some (Sum.inl (s1 : Int32)) = some _ from hbL5)
            obtain rfl := Option.some.inj (show some (s1 : Int32) = some _ from hf)
            exact hret _ _ _ eX0_firstToGo_41
  refine r_sub (lv' := [(0, .ref (a0 o0)), (1, .int p1), (2, .int 0)]) [1, 2, 0] rfl ?_
  have hc := L5 LF 0 h3
  exact hc
theorem eX0_greatestStrain_0 : zd 1 cX0_greatestStrain 0 1 (.aload_n 0) := ⟨by decide +kernel, rfl⟩
theorem eX0_greatestStrain_1 : zd 3 cX0_greatestStrain 1 4 (.getfield 20) := ⟨by decide +kernel, rfl⟩
theorem eX0_greatestStrain_4 : zd 1 cX0_greatestStrain 4 5 (.aload_n 0) := ⟨by decide +kernel, rfl⟩
theorem eX0_greatestStrain_5 : zd 3 cX0_greatestStrain 5 8 (.getfield 23) := ⟨by decide +kernel, rfl⟩
theorem eX0_greatestStrain_8 : zd 1 cX0_greatestStrain 8 9 (.iaload) := ⟨by decide +kernel, rfl⟩
theorem eX0_greatestStrain_9 : zd 1 cX0_greatestStrain 9 10 (.ireturn) := ⟨by decide +kernel, rfl⟩
noncomputable def f_Lg_greatestStrain (v0 : tLg)  : Option (Int32) := (if inb ((gLg_ints v0) 3) 64 = true then (some ((gLg_best v0) (ix ((gLg_ints v0) 3)))) else none)
abbrev rm_Lg_greatestStrain : Room := { frames := 0, cells := 0, slots := 0, locals := 0 }
set_option maxHeartbeats 4000000 in
set_option maxRecDepth 100000 in
theorem c_Lg_greatestStrain (l : Launch) (g : zGl) (a0 : Nat → Nat) (o0 : Nat) (v0 : tLg)  (out : Int32) (hf : f_Lg_greatestStrain v0 = some out) : zMi l yX0_greatestStrain cX0_greatestStrain 1 rm_Lg_greatestStrain g [.ref (a0 o0)] (W_Lg g a0 o0 (gLg_ints v0) (gLg_shares v0) (gLg_strengths v0) (gLg_best v0)) out (W_Lg g a0 o0 (gLg_ints v0) (gLg_shares v0) (gLg_strengths v0) (gLg_best v0)) := by
  refine zMi_of (lv := [(0, .ref (a0 o0))]) (by decide) (Nat.le_of_ble_eq_true rfl) rfl (fun x hl hg C hret => ?_)
  subst hl; subst hg
  rw [f_Lg_greatestStrain] at hf
  refine r_aload_n C eX0_greatestStrain_0 0 rfl rfl ?_
  refine r_get (v := .ref (a0 (o0 + 3))) C eX0_greatestStrain_1 FX0_20 0 rfl rfl ?_
  refine r_aload_n C eX0_greatestStrain_4 0 rfl rfl ?_
  refine r_get (v := .int ((gLg_ints v0) 3)) C eX0_greatestStrain_5 FX0_23 0 rfl rfl ?_
  obtain ⟨hb1, hf⟩ := zchk hf
  refine r_iald C eX0_greatestStrain_8 3 rfl (inb_in hb1) ((gLg_best v0) (ix ((gLg_ints v0) 3))) rfl ?_
  obtain rfl := Option.some.inj (show some (((gLg_best v0) (ix ((gLg_ints v0) 3))) : Int32) = some _ from hf)
  exact hret _ _ _ eX0_greatestStrain_9
theorem eX0_lineAt_0 : zd 1 cX0_lineAt 0 1 (.aload_n 0) := ⟨by decide +kernel, rfl⟩
theorem eX0_lineAt_1 : zd 3 cX0_lineAt 1 4 (.getfield 23) := ⟨by decide +kernel, rfl⟩
theorem eX0_lineAt_4 : zd 1 cX0_lineAt 4 5 (.istore_n 2) := ⟨by decide +kernel, rfl⟩
theorem eX0_lineAt_5 : zd 1 cX0_lineAt 5 6 (.iconst 0) := ⟨by decide +kernel, rfl⟩
theorem eX0_lineAt_6 : zd 1 cX0_lineAt 6 7 (.istore_n 3) := ⟨by decide +kernel, rfl⟩
theorem eX0_lineAt_7 : zd 1 cX0_lineAt 7 8 (.iload_n 3) := ⟨by decide +kernel, rfl⟩
theorem eX0_lineAt_8 : zd 2 cX0_lineAt 8 10 (.bipush 6) := ⟨by decide +kernel, rfl⟩
theorem eX0_lineAt_10 : zdi cX0_lineAt 10 13 47 (.if_icmp .ge) := ⟨37, by decide +kernel, rfl, by decide⟩
theorem eX0_lineAt_13 : zd 1 cX0_lineAt 13 14 (.iload_n 2) := ⟨by decide +kernel, rfl⟩
theorem eX0_lineAt_14 : zdi cX0_lineAt 14 17 47 (.ifCond .eq) := ⟨33, by decide +kernel, rfl, by decide⟩
theorem eX0_lineAt_17 : zd 1 cX0_lineAt 17 18 (.aload_n 0) := ⟨by decide +kernel, rfl⟩
theorem eX0_lineAt_18 : zd 1 cX0_lineAt 18 19 (.iload_n 2) := ⟨by decide +kernel, rfl⟩
theorem eX0_lineAt_19 : zd 3 cX0_lineAt 19 22 (.invokevirtual 77) := ⟨by decide +kernel, rfl⟩
theorem eX0_lineAt_22 : zd 2 cX0_lineAt 22 24 (.istore 4) := ⟨by decide +kernel, rfl⟩
theorem eX0_lineAt_24 : zd 1 cX0_lineAt 24 25 (.iload_n 3) := ⟨by decide +kernel, rfl⟩
theorem eX0_lineAt_25 : zd 1 cX0_lineAt 25 26 (.iload_n 1) := ⟨by decide +kernel, rfl⟩
theorem eX0_lineAt_26 : zdi cX0_lineAt 26 29 32 (.if_icmp .ne) := ⟨6, by decide +kernel, rfl, by decide⟩
theorem eX0_lineAt_29 : zd 2 cX0_lineAt 29 31 (.iload 4) := ⟨by decide +kernel, rfl⟩
theorem eX0_lineAt_31 : zd 1 cX0_lineAt 31 32 (.ireturn) := ⟨by decide +kernel, rfl⟩
theorem eX0_lineAt_32 : zd 1 cX0_lineAt 32 33 (.iload_n 2) := ⟨by decide +kernel, rfl⟩
theorem eX0_lineAt_33 : zd 1 cX0_lineAt 33 34 (.iconst 1) := ⟨by decide +kernel, rfl⟩
theorem eX0_lineAt_34 : zd 2 cX0_lineAt 34 36 (.iload 4) := ⟨by decide +kernel, rfl⟩
theorem eX0_lineAt_36 : zd 1 cX0_lineAt 36 37 (.ishl) := ⟨by decide +kernel, rfl⟩
theorem eX0_lineAt_37 : zd 1 cX0_lineAt 37 38 (.iconst (-1)) := ⟨by decide +kernel, rfl⟩
theorem eX0_lineAt_38 : zd 1 cX0_lineAt 38 39 (.ixor) := ⟨by decide +kernel, rfl⟩
theorem eX0_lineAt_39 : zd 1 cX0_lineAt 39 40 (.iand) := ⟨by decide +kernel, rfl⟩
theorem eX0_lineAt_40 : zd 1 cX0_lineAt 40 41 (.istore_n 2) := ⟨by decide +kernel, rfl⟩
theorem eX0_lineAt_41 : zd 3 cX0_lineAt 41 44 (.iinc 3 1) := ⟨by decide +kernel, rfl⟩
theorem eX0_lineAt_44 : zdi cX0_lineAt 44 47 7 (.goto) := ⟨(-37), by decide +kernel, rfl, by decide⟩
theorem eX0_lineAt_47 : zd 1 cX0_lineAt 47 48 (.iconst (-1)) := ⟨by decide +kernel, rfl⟩
theorem eX0_lineAt_48 : zd 1 cX0_lineAt 48 49 (.ireturn) := ⟨by decide +kernel, rfl⟩
theorem MX0_77 : zlV RX0 77 yX0_firstToGo cX0_firstToGo 3 ((Option.some FieldType.int)) 1 := ⟨q1024, q1026, qs24, q11, q1027, by decide, by decide, by decide +kernel⟩
noncomputable def fB_Lg_lineAt_7 (v0 : tLg) (p1 : Int32) (ih : (Int32 × Int32) → Option ((Int32) ⊕ (Int32 × Int32))) (s1 : Int32 × Int32) : Option ((Int32) ⊕ (Int32 × Int32)) := (if 6 ≤ (s1.2) then (some (Sum.inr ((s1.1), (s1.2)))) else (if (s1.1) = 0 then (some (Sum.inr ((s1.1), (s1.2)))) else (Option.bind (f_Lg_firstToGo v0 (s1.1)) (fun (r8 : Int32) => (if (s1.2) = p1 then (some (Sum.inl r8)) else (zlet ((s1.1) &&& ((1 <<< (r8 &&& 31)) ^^^ (-1))) (fun (z10 : Int32) => (ih (z10, ((s1.2) + 1))))))))))
noncomputable def f_Lg_lineAt (v0 : tLg) (p1 : Int32) : Option (Int32) := (Option.bind (lp (fB_Lg_lineAt_7 v0 p1) LF (((gLg_ints v0) 3), 0)) (fun (q2 : (Int32) ⊕ (Int32 × Int32)) => Sum.elim (fun r => (some r)) (fun (s1e : Int32 × Int32) => (some (-1))) q2))
abbrev rm_Lg_lineAt : Room := { frames := 2, cells := 0, slots := 0, locals := 43 }
set_option maxHeartbeats 4000000 in
set_option maxRecDepth 100000 in
theorem c_Lg_lineAt (l : Launch) (g : zGl) (a0 : Nat → Nat) (o0 : Nat) (v0 : tLg) (p1 : Int32) (out : Int32) (hf : f_Lg_lineAt v0 p1 = some out) : zMi l yX0_lineAt cX0_lineAt 5 rm_Lg_lineAt g [.ref (a0 o0), .int p1] (W_Lg g a0 o0 (gLg_ints v0) (gLg_shares v0) (gLg_strengths v0) (gLg_best v0)) out (W_Lg g a0 o0 (gLg_ints v0) (gLg_shares v0) (gLg_strengths v0) (gLg_best v0)) := by
  refine zMi_of (lv := [(0, .ref (a0 o0)), (1, .int p1)]) (by decide) (Nat.le_of_ble_eq_true rfl) rfl (fun x hl hg C hret => ?_)
  subst hl; subst hg
  rw [f_Lg_lineAt] at hf
  refine r_aload_n C eX0_lineAt_0 0 rfl rfl ?_
  refine r_get (v := .int ((gLg_ints v0) 3)) C eX0_lineAt_1 FX0_23 0 rfl rfl ?_
  refine r_istore_n C [(2, .int ((gLg_ints v0) 3)), (0, .ref (a0 o0)), (1, .int p1)] eX0_lineAt_4 rfl (by decide) rfl ?_
  refine r_iconst C (v := 0) eX0_lineAt_5 (by decide) ?_
  refine r_istore_n C [(3, .int 0), (2, .int ((gLg_ints v0) 3)), (0, .ref (a0 o0)), (1, .int p1)] eX0_lineAt_6 rfl (by decide) rfl ?_
  obtain ⟨q2, h3, hf⟩ := zbind hf
  have J4 : ∀ s1e : Int32 × Int32, q2 = Sum.inr s1e → vV x 5 0 0 (W_Lg (z_g x) a0 o0 (gLg_ints v0) (gLg_shares v0) (gLg_strengths v0) (gLg_best v0)) 47 [] [] := by
    intro s1e hs
    subst hs
    rw [Sum.elim_inr] at hf
    refine r_iconst C (v := (-1)) eX0_lineAt_47 (by decide) ?_
    obtain rfl := Option.some.inj (show some ((-1) : Int32) = some _ from hf)
    exact hret _ _ _ eX0_lineAt_48
  have L5 : ∀ (nL5 : Nat) (s1 : Int32 × Int32), lp (fB_Lg_lineAt_7 v0 p1) nL5 s1 = some q2 → vV x 5 0 0 (W_Lg (z_g x) a0 o0 (gLg_ints v0) (gLg_shares v0) (gLg_strengths v0) (gLg_best v0)) 7 [(0, .ref (a0 o0)), (1, .int p1), (2, .int (s1.1)), (3, .int (s1.2))] [] := by
    intro nL5
    induction nL5 with
    | zero => intro s1 hq; cases hq
    | succ nL5 ihL5 =>
      intro s1 hbL5
      rw [lp_succ, fB_Lg_lineAt_7] at hbL5
      refine r_iload_n C eX0_lineAt_7 3 rfl rfl ?_
      refine r_bipush C (v := 6) eX0_lineAt_8 (by decide) ?_
      refine r_icmp_ge C eX0_lineAt_10 (fun c6 => ?_) (fun c6 => ?_)
      · rw [if_pos c6] at hbL5
        obtain rfl := Option.some.inj hbL5
        refine r_sub (lv' := []) [] rfl ?_
        exact J4 _ rfl
      · rw [if_neg c6] at hbL5
        refine r_iload_n C eX0_lineAt_13 2 rfl rfl ?_
        refine r_if_eq C eX0_lineAt_14 (fun c7 => ?_) (fun c7 => ?_)
        · rw [if_pos c7] at hbL5
          obtain rfl := Option.some.inj hbL5
          refine r_sub (lv' := []) [] rfl ?_
          exact J4 _ rfl
        · rw [if_neg c7] at hbL5
          refine r_aload_n C eX0_lineAt_17 0 rfl rfl ?_
          refine r_iload_n C eX0_lineAt_18 2 rfl rfl ?_
          obtain ⟨r8, hr8, hbL5⟩ := zbind hbL5
          refine r_V_i (ws' := W_Lg (z_g x) a0 o0 (gLg_ints v0) (gLg_shares v0) (gLg_strengths v0) (gLg_best v0)) C (c_Lg_firstToGo (z_l x) (z_g x) a0 o0 v0 (s1.1) r8 hr8) eX0_lineAt_19 MX0_77 ⟨0, 0, _, _, rfl, rfl, rfl⟩ [0, 1, 2, 3] rfl rfl rfl rfl [] rfl trivial 4 rfl rfl rfl rfl rfl rfl ?_
          refine r_istore C [(4, .int r8), (0, .ref (a0 o0)), (1, .int p1), (2, .int (s1.1)), (3, .int (s1.2))] eX0_lineAt_22 (by decide) rfl ?_
          refine r_iload_n C eX0_lineAt_24 4 rfl rfl ?_
          refine r_iload_n C eX0_lineAt_25 2 rfl rfl ?_
          refine r_icmp_ne C eX0_lineAt_26 (fun c9 => ?_) (fun c9 => ?_)
          · rw [if_neg c9] at hbL5
            refine r_iload_n C eX0_lineAt_32 3 rfl rfl ?_
            refine r_iconst C (v := 1) eX0_lineAt_33 (by decide) ?_
            refine r_iload C eX0_lineAt_34 0 rfl ?_
            refine r_ishl C eX0_lineAt_36 ?_
            refine r_iconst C (v := (-1)) eX0_lineAt_37 (by decide) ?_
            refine r_ixor C eX0_lineAt_38 ?_
            refine r_iand C eX0_lineAt_39 ?_
            obtain ⟨z10, hz10, hbL5⟩ := zlet_of hbL5
            refine r_nami hz10 ?_
            refine r_istore_n C [(2, .int z10), (4, .int r8), (0, .ref (a0 o0)), (1, .int p1), (3, .int (s1.2))] eX0_lineAt_40 rfl (by decide) rfl ?_
            refine r_iinc C (v := ((s1.2) + 1)) [(3, .int ((s1.2) + 1)), (2, .int z10), (4, .int r8), (0, .ref (a0 o0)), (1, .int p1)] eX0_lineAt_41 4 rfl rfl (by decide) rfl ?_
            refine r_goto C eX0_lineAt_44 ?_
            refine r_sub (lv' := [(0, .ref (a0 o0)), (1, .int p1), (2, .int z10), (3, .int ((s1.2) + 1))]) [3, 4, 1, 0] rfl ?_
            have hc := ihL5 (z10, ((s1.2) + 1)) hbL5
            exact hc
          · rw [if_pos c9] at hbL5
            refine r_iload C eX0_lineAt_29 0 rfl ?_
            obtain rfl := Option.some.inj (show some (Sum.inl (r8 : Int32)) = some _ from hbL5)
            obtain rfl := Option.some.inj (show some (r8 : Int32) = some _ from hf)
            exact hret _ _ _ eX0_lineAt_31
  refine r_sub (lv' := [(0, .ref (a0 o0)), (1, .int p1), (2, .int ((gLg_ints v0) 3)), (3, .int 0)]) [2, 3, 1, 0] rfl ?_
  have hc := L5 LF (((gLg_ints v0) 3), 0) h3
  exact hc
theorem eX0_strainOf_0 : zd 1 cX0_strainOf 0 1 (.iconst 0) := ⟨by decide +kernel, rfl⟩
theorem eX0_strainOf_1 : zd 1 cX0_strainOf 1 2 (.istore_n 3) := ⟨by decide +kernel, rfl⟩
theorem eX0_strainOf_2 : zd 1 cX0_strainOf 2 3 (.iconst 0) := ⟨by decide +kernel, rfl⟩
theorem eX0_strainOf_3 : zd 2 cX0_strainOf 3 5 (.istore 4) := ⟨by decide +kernel, rfl⟩
theorem eX0_strainOf_5 : zd 2 cX0_strainOf 5 7 (.iload 4) := ⟨by decide +kernel, rfl⟩
theorem eX0_strainOf_7 : zd 2 cX0_strainOf 7 9 (.bipush 6) := ⟨by decide +kernel, rfl⟩
theorem eX0_strainOf_9 : zdi cX0_strainOf 9 12 41 (.if_icmp .ge) := ⟨32, by decide +kernel, rfl, by decide⟩
theorem eX0_strainOf_12 : zd 1 cX0_strainOf 12 13 (.iload_n 3) := ⟨by decide +kernel, rfl⟩
theorem eX0_strainOf_13 : zd 1 cX0_strainOf 13 14 (.iload_n 1) := ⟨by decide +kernel, rfl⟩
theorem eX0_strainOf_14 : zd 2 cX0_strainOf 14 16 (.iload 4) := ⟨by decide +kernel, rfl⟩
theorem eX0_strainOf_16 : zd 3 cX0_strainOf 16 19 (.invokestatic 73) := ⟨by decide +kernel, rfl⟩
theorem eX0_strainOf_19 : zdi cX0_strainOf 19 22 32 (.ifCond .eq) := ⟨13, by decide +kernel, rfl, by decide⟩
theorem eX0_strainOf_22 : zd 1 cX0_strainOf 22 23 (.aload_n 0) := ⟨by decide +kernel, rfl⟩
theorem eX0_strainOf_23 : zd 3 cX0_strainOf 23 26 (.getfield 11) := ⟨by decide +kernel, rfl⟩
theorem eX0_strainOf_26 : zd 2 cX0_strainOf 26 28 (.iload 4) := ⟨by decide +kernel, rfl⟩
theorem eX0_strainOf_28 : zd 1 cX0_strainOf 28 29 (.iaload) := ⟨by decide +kernel, rfl⟩
theorem eX0_strainOf_29 : zdi cX0_strainOf 29 32 33 (.goto) := ⟨4, by decide +kernel, rfl, by decide⟩
theorem eX0_strainOf_32 : zd 1 cX0_strainOf 32 33 (.iconst 0) := ⟨by decide +kernel, rfl⟩
theorem eX0_strainOf_33 : zd 1 cX0_strainOf 33 34 (.iadd) := ⟨by decide +kernel, rfl⟩
theorem eX0_strainOf_34 : zd 1 cX0_strainOf 34 35 (.istore_n 3) := ⟨by decide +kernel, rfl⟩
theorem eX0_strainOf_35 : zd 3 cX0_strainOf 35 38 (.iinc 4 1) := ⟨by decide +kernel, rfl⟩
theorem eX0_strainOf_38 : zdi cX0_strainOf 38 41 5 (.goto) := ⟨(-33), by decide +kernel, rfl, by decide⟩
theorem eX0_strainOf_41 : zd 1 cX0_strainOf 41 42 (.iconst 0) := ⟨by decide +kernel, rfl⟩
theorem eX0_strainOf_42 : zd 2 cX0_strainOf 42 44 (.istore 4) := ⟨by decide +kernel, rfl⟩
theorem eX0_strainOf_44 : zd 1 cX0_strainOf 44 45 (.iconst 0) := ⟨by decide +kernel, rfl⟩
theorem eX0_strainOf_45 : zd 2 cX0_strainOf 45 47 (.istore 5) := ⟨by decide +kernel, rfl⟩
theorem eX0_strainOf_47 : zd 2 cX0_strainOf 47 49 (.iload 5) := ⟨by decide +kernel, rfl⟩
theorem eX0_strainOf_49 : zd 2 cX0_strainOf 49 51 (.bipush 6) := ⟨by decide +kernel, rfl⟩
theorem eX0_strainOf_51 : zdi cX0_strainOf 51 54 112 (.if_icmp .ge) := ⟨61, by decide +kernel, rfl, by decide⟩
theorem eX0_strainOf_54 : zd 1 cX0_strainOf 54 55 (.iload_n 1) := ⟨by decide +kernel, rfl⟩
theorem eX0_strainOf_55 : zd 2 cX0_strainOf 55 57 (.iload 5) := ⟨by decide +kernel, rfl⟩
theorem eX0_strainOf_57 : zd 3 cX0_strainOf 57 60 (.invokestatic 73) := ⟨by decide +kernel, rfl⟩
theorem eX0_strainOf_60 : zdi cX0_strainOf 60 63 106 (.ifCond .eq) := ⟨46, by decide +kernel, rfl, by decide⟩
theorem eX0_strainOf_63 : zd 1 cX0_strainOf 63 64 (.iload_n 3) := ⟨by decide +kernel, rfl⟩
theorem eX0_strainOf_64 : zdi cX0_strainOf 64 67 106 (.ifCond .le) := ⟨42, by decide +kernel, rfl, by decide⟩
theorem eX0_strainOf_67 : zd 1 cX0_strainOf 67 68 (.aload_n 0) := ⟨by decide +kernel, rfl⟩
theorem eX0_strainOf_68 : zd 3 cX0_strainOf 68 71 (.getfield 17) := ⟨by decide +kernel, rfl⟩
theorem eX0_strainOf_71 : zd 2 cX0_strainOf 71 73 (.iload 5) := ⟨by decide +kernel, rfl⟩
theorem eX0_strainOf_73 : zd 1 cX0_strainOf 73 74 (.iaload) := ⟨by decide +kernel, rfl⟩
theorem eX0_strainOf_74 : zdi cX0_strainOf 74 77 106 (.ifCond .le) := ⟨32, by decide +kernel, rfl, by decide⟩
theorem eX0_strainOf_77 : zd 2 cX0_strainOf 77 79 (.iload 4) := ⟨by decide +kernel, rfl⟩
theorem eX0_strainOf_79 : zd 1 cX0_strainOf 79 80 (.iload_n 2) := ⟨by decide +kernel, rfl⟩
theorem eX0_strainOf_80 : zd 1 cX0_strainOf 80 81 (.aload_n 0) := ⟨by decide +kernel, rfl⟩
theorem eX0_strainOf_81 : zd 3 cX0_strainOf 81 84 (.getfield 11) := ⟨by decide +kernel, rfl⟩
theorem eX0_strainOf_84 : zd 2 cX0_strainOf 84 86 (.iload 5) := ⟨by decide +kernel, rfl⟩
theorem eX0_strainOf_86 : zd 1 cX0_strainOf 86 87 (.iaload) := ⟨by decide +kernel, rfl⟩
theorem eX0_strainOf_87 : zd 1 cX0_strainOf 87 88 (.imul) := ⟨by decide +kernel, rfl⟩
theorem eX0_strainOf_88 : zd 1 cX0_strainOf 88 89 (.iload_n 3) := ⟨by decide +kernel, rfl⟩
theorem eX0_strainOf_89 : zd 1 cX0_strainOf 89 90 (.idiv) := ⟨by decide +kernel, rfl⟩
theorem eX0_strainOf_90 : zd 2 cX0_strainOf 90 92 (.bipush 100) := ⟨by decide +kernel, rfl⟩
theorem eX0_strainOf_92 : zd 1 cX0_strainOf 92 93 (.imul) := ⟨by decide +kernel, rfl⟩
theorem eX0_strainOf_93 : zd 1 cX0_strainOf 93 94 (.aload_n 0) := ⟨by decide +kernel, rfl⟩
theorem eX0_strainOf_94 : zd 3 cX0_strainOf 94 97 (.getfield 17) := ⟨by decide +kernel, rfl⟩
theorem eX0_strainOf_97 : zd 2 cX0_strainOf 97 99 (.iload 5) := ⟨by decide +kernel, rfl⟩
theorem eX0_strainOf_99 : zd 1 cX0_strainOf 99 100 (.iaload) := ⟨by decide +kernel, rfl⟩
theorem eX0_strainOf_100 : zd 1 cX0_strainOf 100 101 (.idiv) := ⟨by decide +kernel, rfl⟩
theorem eX0_strainOf_101 : zd 3 cX0_strainOf 101 104 (.invokestatic 68) := ⟨by decide +kernel, rfl⟩
theorem eX0_strainOf_104 : zd 2 cX0_strainOf 104 106 (.istore 4) := ⟨by decide +kernel, rfl⟩
theorem eX0_strainOf_106 : zd 3 cX0_strainOf 106 109 (.iinc 5 1) := ⟨by decide +kernel, rfl⟩
theorem eX0_strainOf_109 : zdi cX0_strainOf 109 112 47 (.goto) := ⟨(-62), by decide +kernel, rfl, by decide⟩
theorem eX0_strainOf_112 : zd 2 cX0_strainOf 112 114 (.iload 4) := ⟨by decide +kernel, rfl⟩
theorem eX0_strainOf_114 : zd 1 cX0_strainOf 114 115 (.ireturn) := ⟨by decide +kernel, rfl⟩
theorem FX0_11 : zlF RX0 11 0 0 := ⟨(RX0, TX0, 4), rfl, by decide, q339, zin0⟩
theorem FX0_17 : zlF RX0 17 0 1 := ⟨(RX0, TX0, 4), rfl, by decide, q340, zin0⟩
theorem MX0_68 : Cond.methodLink RX0 68 Lib.Math.max.name ∈ TB ∧ Cond.static Lib.Math.max.name ∈ TB ∧ Cond.initialized "java/lang/Math" ∈ TB ∧ Cond.code Lib.Math.max.name Lib.Math.max.code 2 (some .int) ∈ TB := ⟨q1011, q701, q18, q702⟩
noncomputable def fB_Lg_strainOf_5 (v0 : tLg) (p1 : Int32) (ih : (Int32 × Int32) → Option (Int32 × Int32)) (s1 : Int32 × Int32) : Option (Int32 × Int32) := (if 6 ≤ (s1.2) then (some ((s1.1), (s1.2))) else (Option.bind (if (f_Lg_isIn p1 (s1.2)) = 0 then (some 0) else (if inb (s1.2) 6 = true then (some ((gLg_shares v0) (ix (s1.2)))) else none)) (fun (w8 : Int32) => (zlet ((s1.1) + w8) (fun (z12 : Int32) => (ih (z12, ((s1.2) + 1))))))))
noncomputable def fB_Lg_strainOf_47 (v0 : tLg) (p1 : Int32) (p2 : Int32) (q2 : Int32 × Int32) (ih : (Int32 × Int32) → Option (Int32 × Int32)) (s13 : Int32 × Int32) : Option (Int32 × Int32) := (if 6 ≤ (s13.2) then (some ((s13.1), (s13.2))) else (if (f_Lg_isIn p1 (s13.2)) = 0 then (ih ((s13.1), ((s13.2) + 1))) else (if (q2.1) ≤ 0 then (ih ((s13.1), ((s13.2) + 1))) else (if inb (s13.2) 6 = true then (if ((gLg_strengths v0) (ix (s13.2))) ≤ 0 then (ih ((s13.1), ((s13.2) + 1))) else (if inb (s13.2) 6 = true then (if (q2.1) = 0 then none else (if inb (s13.2) 6 = true then (if ((gLg_strengths v0) (ix (s13.2))) = 0 then none else (zlet (zmax (s13.1) ((((p2 * ((gLg_shares v0) (ix (s13.2)))) / (q2.1)) * 100) / ((gLg_strengths v0) (ix (s13.2))))) (fun (z28 : Int32) => (ih (z28, ((s13.2) + 1)))))) else none)) else none)) else none))))
noncomputable def f_Lg_strainOf (v0 : tLg) (p1 : Int32) (p2 : Int32) : Option (Int32) := (Option.bind (lp (fB_Lg_strainOf_5 v0 p1) LF (0, 0)) (fun (q2 : Int32 × Int32) => (Option.bind (lp (fB_Lg_strainOf_47 v0 p1 p2 q2) LF (0, 0)) (fun (q14 : Int32 × Int32) => (some (q14.1))))))
abbrev rm_Lg_strainOf : Room := { frames := 1, cells := 0, slots := 0, locals := 21 }
set_option maxHeartbeats 4000000 in
set_option maxRecDepth 100000 in
theorem c_Lg_strainOf (l : Launch) (g : zGl) (a0 : Nat → Nat) (o0 : Nat) (v0 : tLg) (p1 : Int32) (p2 : Int32) (out : Int32) (hf : f_Lg_strainOf v0 p1 p2 = some out) : zMi l yX0_strainOf cX0_strainOf 6 rm_Lg_strainOf g [.ref (a0 o0), .int p1, .int p2] (W_Lg g a0 o0 (gLg_ints v0) (gLg_shares v0) (gLg_strengths v0) (gLg_best v0)) out (W_Lg g a0 o0 (gLg_ints v0) (gLg_shares v0) (gLg_strengths v0) (gLg_best v0)) := by
  refine zMi_of (lv := [(0, .ref (a0 o0)), (1, .int p1), (2, .int p2)]) (by decide) (Nat.le_of_ble_eq_true rfl) rfl (fun x hl hg C hret => ?_)
  subst hl; subst hg
  rw [f_Lg_strainOf] at hf
  refine r_iconst C (v := 0) eX0_strainOf_0 (by decide) ?_
  refine r_istore_n C [(3, .int 0), (0, .ref (a0 o0)), (1, .int p1), (2, .int p2)] eX0_strainOf_1 rfl (by decide) rfl ?_
  refine r_iconst C (v := 0) eX0_strainOf_2 (by decide) ?_
  refine r_istore C [(4, .int 0), (3, .int 0), (0, .ref (a0 o0)), (1, .int p1), (2, .int p2)] eX0_strainOf_3 (by decide) rfl ?_
  obtain ⟨q2, h3, hf⟩ := zbind hf
  have J4 : vV x 6 0 0 (W_Lg (z_g x) a0 o0 (gLg_ints v0) (gLg_shares v0) (gLg_strengths v0) (gLg_best v0)) 41 [(0, .ref (a0 o0)), (1, .int p1), (2, .int p2), (3, .int (q2.1))] [] := by
    refine r_iconst C (v := 0) eX0_strainOf_41 (by decide) ?_
    refine r_istore C [(4, .int 0), (0, .ref (a0 o0)), (1, .int p1), (2, .int p2), (3, .int (q2.1))] eX0_strainOf_42 (by decide) rfl ?_
    refine r_iconst C (v := 0) eX0_strainOf_44 (by decide) ?_
    refine r_istore C [(5, .int 0), (4, .int 0), (0, .ref (a0 o0)), (1, .int p1), (2, .int p2), (3, .int (q2.1))] eX0_strainOf_45 (by decide) rfl ?_
    obtain ⟨q14, h15, hf⟩ := zbind hf
    have J16 : vV x 6 0 0 (W_Lg (z_g x) a0 o0 (gLg_ints v0) (gLg_shares v0) (gLg_strengths v0) (gLg_best v0)) 112 [(4, .int (q14.1))] [] := by
      refine r_iload C eX0_strainOf_112 0 rfl ?_
      obtain rfl := Option.some.inj (show some ((q14.1) : Int32) = some _ from hf)
      exact hret _ _ _ eX0_strainOf_114
    have L17 : ∀ (nL17 : Nat) (s13 : Int32 × Int32), lp (fB_Lg_strainOf_47 v0 p1 p2 q2) nL17 s13 = some q14 → vV x 6 0 0 (W_Lg (z_g x) a0 o0 (gLg_ints v0) (gLg_shares v0) (gLg_strengths v0) (gLg_best v0)) 47 [(0, .ref (a0 o0)), (1, .int p1), (2, .int p2), (3, .int (q2.1)), (4, .int (s13.1)), (5, .int (s13.2))] [] := by
      intro nL17
      induction nL17 with
      | zero => intro s13 hq; cases hq
      | succ nL17 ihL17 =>
        intro s13 hbL17
        rw [lp_succ, fB_Lg_strainOf_47] at hbL17
        refine r_iload C eX0_strainOf_47 5 rfl ?_
        refine r_bipush C (v := 6) eX0_strainOf_49 (by decide) ?_
        refine r_icmp_ge C eX0_strainOf_51 (fun c18 => ?_) (fun c18 => ?_)
        · rw [if_pos c18] at hbL17
          obtain rfl := Option.some.inj hbL17
          refine r_sub (lv' := [(4, .int (s13.1))]) [4] rfl ?_
          exact J16
        · rw [if_neg c18] at hbL17
          refine r_iload_n C eX0_strainOf_54 1 rfl rfl ?_
          refine r_iload C eX0_strainOf_55 5 rfl ?_
          refine r_S_z (ws' := W_Lg (z_g x) a0 o0 (gLg_ints v0) (gLg_shares v0) (gLg_strengths v0) (gLg_best v0)) C (c_Lg_isIn (z_l x) (z_g x)  p1 (s13.2) _ rfl) eX0_strainOf_57 MX0_73 [] rfl rfl rfl rfl [0, 1, 2, 3] rfl ⟨rfl, rfl, rfl, rfl, trivial⟩ 4 rfl rfl rfl rfl rfl rfl (fun zb19 => ?_)
          refine r_if_eq C eX0_strainOf_60 (fun c20 => ?_) (fun c20 => ?_)
          · rw [if_pos c20] at hbL17
            refine r_iinc C (v := ((s13.2) + 1)) [(5, .int ((s13.2) + 1)), (0, .ref (a0 o0)), (1, .int p1), (2, .int p2), (3, .int (q2.1)), (4, .int (s13.1))] eX0_strainOf_106 5 rfl rfl (by decide) rfl ?_
            refine r_goto C eX0_strainOf_109 ?_
            refine r_sub (lv' := [(0, .ref (a0 o0)), (1, .int p1), (2, .int p2), (3, .int (q2.1)), (4, .int (s13.1)), (5, .int ((s13.2) + 1))]) [1, 2, 3, 4, 5, 0] rfl ?_
            have hc := ihL17 ((s13.1), ((s13.2) + 1)) hbL17
            exact hc
          · rw [if_neg c20] at hbL17
            refine r_iload_n C eX0_strainOf_63 3 rfl rfl ?_
            refine r_if_le C eX0_strainOf_64 (fun c21 => ?_) (fun c21 => ?_)
            · rw [if_pos c21] at hbL17
              refine r_iinc C (v := ((s13.2) + 1)) [(5, .int ((s13.2) + 1)), (0, .ref (a0 o0)), (1, .int p1), (2, .int p2), (3, .int (q2.1)), (4, .int (s13.1))] eX0_strainOf_106 5 rfl rfl (by decide) rfl ?_
              refine r_goto C eX0_strainOf_109 ?_
              refine r_sub (lv' := [(0, .ref (a0 o0)), (1, .int p1), (2, .int p2), (3, .int (q2.1)), (4, .int (s13.1)), (5, .int ((s13.2) + 1))]) [1, 2, 3, 4, 5, 0] rfl ?_
              have hc := ihL17 ((s13.1), ((s13.2) + 1)) hbL17
              exact hc
            · rw [if_neg c21] at hbL17
              refine r_aload_n C eX0_strainOf_67 0 rfl rfl ?_
              refine r_get (v := .ref (a0 (o0 + 2))) C eX0_strainOf_68 FX0_17 0 rfl rfl ?_
              refine r_iload C eX0_strainOf_71 5 rfl ?_
              obtain ⟨hb22, hbL17⟩ := zchk hbL17
              refine r_iald C eX0_strainOf_73 2 rfl (inb_in hb22) ((gLg_strengths v0) (ix (s13.2))) rfl ?_
              refine r_if_le C eX0_strainOf_74 (fun c23 => ?_) (fun c23 => ?_)
              · rw [if_pos c23] at hbL17
                refine r_iinc C (v := ((s13.2) + 1)) [(5, .int ((s13.2) + 1)), (0, .ref (a0 o0)), (1, .int p1), (2, .int p2), (3, .int (q2.1)), (4, .int (s13.1))] eX0_strainOf_106 5 rfl rfl (by decide) rfl ?_
                refine r_goto C eX0_strainOf_109 ?_
                refine r_sub (lv' := [(0, .ref (a0 o0)), (1, .int p1), (2, .int p2), (3, .int (q2.1)), (4, .int (s13.1)), (5, .int ((s13.2) + 1))]) [1, 2, 3, 4, 5, 0] rfl ?_
                have hc := ihL17 ((s13.1), ((s13.2) + 1)) hbL17
                exact hc
              · rw [if_neg c23] at hbL17
                refine r_iload C eX0_strainOf_77 4 rfl ?_
                refine r_iload_n C eX0_strainOf_79 2 rfl rfl ?_
                refine r_aload_n C eX0_strainOf_80 0 rfl rfl ?_
                refine r_get (v := .ref (a0 (o0 + 1))) C eX0_strainOf_81 FX0_11 0 rfl rfl ?_
                refine r_iload C eX0_strainOf_84 5 rfl ?_
                obtain ⟨hb24, hbL17⟩ := zchk hbL17
                refine r_iald C eX0_strainOf_86 1 rfl (inb_in hb24) ((gLg_shares v0) (ix (s13.2))) rfl ?_
                refine r_imul C eX0_strainOf_87 ?_
                refine r_iload_n C eX0_strainOf_88 3 rfl rfl ?_
                obtain ⟨hz25, hbL17⟩ := zdv hbL17
                refine r_idiv C eX0_strainOf_89 hz25 ?_
                refine r_bipush C (v := 100) eX0_strainOf_90 (by decide) ?_
                refine r_imul C eX0_strainOf_92 ?_
                refine r_aload_n C eX0_strainOf_93 0 rfl rfl ?_
                refine r_get (v := .ref (a0 (o0 + 2))) C eX0_strainOf_94 FX0_17 0 rfl rfl ?_
                refine r_iload C eX0_strainOf_97 5 rfl ?_
                obtain ⟨hb26, hbL17⟩ := zchk hbL17
                refine r_iald C eX0_strainOf_99 2 rfl (inb_in hb26) ((gLg_strengths v0) (ix (s13.2))) rfl ?_
                obtain ⟨hz27, hbL17⟩ := zdv hbL17
                refine r_idiv C eX0_strainOf_100 hz27 ?_
                refine r_mmax C eX0_strainOf_101 MX0_68 rfl ?_
                obtain ⟨z28, hz28, hbL17⟩ := zlet_of hbL17
                refine r_nami hz28 ?_
                refine r_istore C [(4, .int z28), (0, .ref (a0 o0)), (1, .int p1), (2, .int p2), (3, .int (q2.1)), (5, .int (s13.2))] eX0_strainOf_104 (by decide) rfl ?_
                refine r_iinc C (v := ((s13.2) + 1)) [(5, .int ((s13.2) + 1)), (4, .int z28), (0, .ref (a0 o0)), (1, .int p1), (2, .int p2), (3, .int (q2.1))] eX0_strainOf_106 5 rfl rfl (by decide) rfl ?_
                refine r_goto C eX0_strainOf_109 ?_
                refine r_sub (lv' := [(0, .ref (a0 o0)), (1, .int p1), (2, .int p2), (3, .int (q2.1)), (4, .int z28), (5, .int ((s13.2) + 1))]) [2, 3, 4, 5, 1, 0] rfl ?_
                have hc := ihL17 (z28, ((s13.2) + 1)) hbL17
                exact hc
    refine r_sub (lv' := [(0, .ref (a0 o0)), (1, .int p1), (2, .int p2), (3, .int (q2.1)), (4, .int 0), (5, .int 0)]) [2, 3, 4, 5, 1, 0] rfl ?_
    have hc := L17 LF (0, 0) h15
    exact hc
  have L5 : ∀ (nL5 : Nat) (s1 : Int32 × Int32), lp (fB_Lg_strainOf_5 v0 p1) nL5 s1 = some q2 → vV x 6 0 0 (W_Lg (z_g x) a0 o0 (gLg_ints v0) (gLg_shares v0) (gLg_strengths v0) (gLg_best v0)) 5 [(0, .ref (a0 o0)), (1, .int p1), (2, .int p2), (3, .int (s1.1)), (4, .int (s1.2))] [] := by
    intro nL5
    induction nL5 with
    | zero => intro s1 hq; cases hq
    | succ nL5 ihL5 =>
      intro s1 hbL5
      rw [lp_succ, fB_Lg_strainOf_5] at hbL5
      refine r_iload C eX0_strainOf_5 4 rfl ?_
      refine r_bipush C (v := 6) eX0_strainOf_7 (by decide) ?_
      refine r_icmp_ge C eX0_strainOf_9 (fun c6 => ?_) (fun c6 => ?_)
      · rw [if_pos c6] at hbL5
        obtain rfl := Option.some.inj hbL5
        refine r_sub (lv' := [(0, .ref (a0 o0)), (1, .int p1), (2, .int p2), (3, .int (s1.1))]) [0, 1, 2, 3] rfl ?_
        exact J4
      · rw [if_neg c6] at hbL5
        refine r_iload_n C eX0_strainOf_12 3 rfl rfl ?_
        refine r_iload_n C eX0_strainOf_13 1 rfl rfl ?_
        refine r_iload C eX0_strainOf_14 4 rfl ?_
        refine r_S_z (ws' := W_Lg (z_g x) a0 o0 (gLg_ints v0) (gLg_shares v0) (gLg_strengths v0) (gLg_best v0)) C (c_Lg_isIn (z_l x) (z_g x)  p1 (s1.2) _ rfl) eX0_strainOf_16 MX0_73 [] rfl rfl rfl rfl [0, 1, 2, 3] rfl ⟨rfl, rfl, rfl, rfl, trivial⟩ 4 rfl rfl rfl rfl rfl rfl (fun zb7 => ?_)
        obtain ⟨w8, hw8, hbL5⟩ := zbind hbL5
        have J9 : vV x 6 0 0 (W_Lg (z_g x) a0 o0 (gLg_ints v0) (gLg_shares v0) (gLg_strengths v0) (gLg_best v0)) 33 [(0, .ref (a0 o0)), (1, .int p1), (2, .int p2), (4, .int (s1.2))] [.int w8, .int (s1.1)] := by
          refine r_iadd C eX0_strainOf_33 ?_
          obtain ⟨z12, hz12, hbL5⟩ := zlet_of hbL5
          refine r_nami hz12 ?_
          refine r_istore_n C [(3, .int z12), (0, .ref (a0 o0)), (1, .int p1), (2, .int p2), (4, .int (s1.2))] eX0_strainOf_34 rfl (by decide) rfl ?_
          refine r_iinc C (v := ((s1.2) + 1)) [(4, .int ((s1.2) + 1)), (3, .int z12), (0, .ref (a0 o0)), (1, .int p1), (2, .int p2)] eX0_strainOf_35 4 rfl rfl (by decide) rfl ?_
          refine r_goto C eX0_strainOf_38 ?_
          refine r_sub (lv' := [(0, .ref (a0 o0)), (1, .int p1), (2, .int p2), (3, .int z12), (4, .int ((s1.2) + 1))]) [2, 3, 4, 1, 0] rfl ?_
          have hc := ihL5 (z12, ((s1.2) + 1)) hbL5
          exact hc
        refine r_if_eq C eX0_strainOf_19 (fun c10 => ?_) (fun c10 => ?_)
        · rw [if_pos c10] at hw8
          refine r_iconst C (v := 0) eX0_strainOf_32 (by decide) ?_
          obtain rfl := Option.some.inj hw8
          refine r_sub (lv' := [(0, .ref (a0 o0)), (1, .int p1), (2, .int p2), (4, .int (s1.2))]) [0, 1, 2, 4] rfl ?_
          exact J9 
        · rw [if_neg c10] at hw8
          refine r_aload_n C eX0_strainOf_22 0 rfl rfl ?_
          refine r_get (v := .ref (a0 (o0 + 1))) C eX0_strainOf_23 FX0_11 0 rfl rfl ?_
          refine r_iload C eX0_strainOf_26 4 rfl ?_
          obtain ⟨hb11, hw8⟩ := zchk hw8
          refine r_iald C eX0_strainOf_28 1 rfl (inb_in hb11) ((gLg_shares v0) (ix (s1.2))) rfl ?_
          refine r_goto C eX0_strainOf_29 ?_
          obtain rfl := Option.some.inj hw8
          refine r_sub (lv' := [(0, .ref (a0 o0)), (1, .int p1), (2, .int p2), (4, .int (s1.2))]) [0, 1, 2, 4] rfl ?_
          exact J9 
  refine r_sub (lv' := [(0, .ref (a0 o0)), (1, .int p1), (2, .int p2), (3, .int 0), (4, .int 0)]) [2, 3, 4, 1, 0] rfl ?_
  have hc := L5 LF (0, 0) h3
  exact hc
