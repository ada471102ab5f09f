theorem eX1_copyFrom_0 : zd 1 cX1_copyFrom 0 1 (.iconst 0) := ⟨by decide +kernel, rfl⟩
theorem eX1_copyFrom_1 : zd 1 cX1_copyFrom 1 2 (.istore_n 2) := ⟨by decide +kernel, rfl⟩
theorem eX1_copyFrom_2 : zd 1 cX1_copyFrom 2 3 (.iload_n 2) := ⟨by decide +kernel, rfl⟩
theorem eX1_copyFrom_3 : zd 2 cX1_copyFrom 3 5 (.bipush 6) := ⟨by decide +kernel, rfl⟩
theorem eX1_copyFrom_5 : zdi cX1_copyFrom 5 8 62 (.if_icmp .ge) := ⟨57, by decide +kernel, rfl, by decide⟩
theorem eX1_copyFrom_8 : zd 1 cX1_copyFrom 8 9 (.aload_n 0) := ⟨by decide +kernel, rfl⟩
theorem eX1_copyFrom_9 : zd 3 cX1_copyFrom 9 12 (.getfield 9) := ⟨by decide +kernel, rfl⟩
theorem eX1_copyFrom_12 : zd 1 cX1_copyFrom 12 13 (.iload_n 2) := ⟨by decide +kernel, rfl⟩
theorem eX1_copyFrom_13 : zd 1 cX1_copyFrom 13 14 (.aload_n 1) := ⟨by decide +kernel, rfl⟩
theorem eX1_copyFrom_14 : zd 3 cX1_copyFrom 14 17 (.getfield 9) := ⟨by decide +kernel, rfl⟩
theorem eX1_copyFrom_17 : zd 1 cX1_copyFrom 17 18 (.iload_n 2) := ⟨by decide +kernel, rfl⟩
theorem eX1_copyFrom_18 : zd 1 cX1_copyFrom 18 19 (.baload) := ⟨by decide +kernel, rfl⟩
theorem eX1_copyFrom_19 : zd 1 cX1_copyFrom 19 20 (.bastore) := ⟨by decide +kernel, rfl⟩
theorem eX1_copyFrom_20 : zd 1 cX1_copyFrom 20 21 (.aload_n 0) := ⟨by decide +kernel, rfl⟩
theorem eX1_copyFrom_21 : zd 3 cX1_copyFrom 21 24 (.getfield 13) := ⟨by decide +kernel, rfl⟩
theorem eX1_copyFrom_24 : zd 1 cX1_copyFrom 24 25 (.iload_n 2) := ⟨by decide +kernel, rfl⟩
theorem eX1_copyFrom_25 : zd 1 cX1_copyFrom 25 26 (.aload_n 1) := ⟨by decide +kernel, rfl⟩
theorem eX1_copyFrom_26 : zd 3 cX1_copyFrom 26 29 (.getfield 13) := ⟨by decide +kernel, rfl⟩
theorem eX1_copyFrom_29 : zd 1 cX1_copyFrom 29 30 (.iload_n 2) := ⟨by decide +kernel, rfl⟩
theorem eX1_copyFrom_30 : zd 1 cX1_copyFrom 30 31 (.iaload) := ⟨by decide +kernel, rfl⟩
theorem eX1_copyFrom_31 : zd 1 cX1_copyFrom 31 32 (.iastore) := ⟨by decide +kernel, rfl⟩
theorem eX1_copyFrom_32 : zd 1 cX1_copyFrom 32 33 (.aload_n 0) := ⟨by decide +kernel, rfl⟩
theorem eX1_copyFrom_33 : zd 3 cX1_copyFrom 33 36 (.getfield 17) := ⟨by decide +kernel, rfl⟩
theorem eX1_copyFrom_36 : zd 1 cX1_copyFrom 36 37 (.iload_n 2) := ⟨by decide +kernel, rfl⟩
theorem eX1_copyFrom_37 : zd 1 cX1_copyFrom 37 38 (.aload_n 1) := ⟨by decide +kernel, rfl⟩
theorem eX1_copyFrom_38 : zd 3 cX1_copyFrom 38 41 (.getfield 17) := ⟨by decide +kernel, rfl⟩
theorem eX1_copyFrom_41 : zd 1 cX1_copyFrom 41 42 (.iload_n 2) := ⟨by decide +kernel, rfl⟩
theorem eX1_copyFrom_42 : zd 1 cX1_copyFrom 42 43 (.iaload) := ⟨by decide +kernel, rfl⟩
theorem eX1_copyFrom_43 : zd 1 cX1_copyFrom 43 44 (.iastore) := ⟨by decide +kernel, rfl⟩
theorem eX1_copyFrom_44 : zd 1 cX1_copyFrom 44 45 (.aload_n 0) := ⟨by decide +kernel, rfl⟩
theorem eX1_copyFrom_45 : zd 3 cX1_copyFrom 45 48 (.getfield 20) := ⟨by decide +kernel, rfl⟩
theorem eX1_copyFrom_48 : zd 1 cX1_copyFrom 48 49 (.iload_n 2) := ⟨by decide +kernel, rfl⟩
theorem eX1_copyFrom_49 : zd 1 cX1_copyFrom 49 50 (.aload_n 1) := ⟨by decide +kernel, rfl⟩
theorem eX1_copyFrom_50 : zd 3 cX1_copyFrom 50 53 (.getfield 20) := ⟨by decide +kernel, rfl⟩
theorem eX1_copyFrom_53 : zd 1 cX1_copyFrom 53 54 (.iload_n 2) := ⟨by decide +kernel, rfl⟩
theorem eX1_copyFrom_54 : zd 1 cX1_copyFrom 54 55 (.iaload) := ⟨by decide +kernel, rfl⟩
theorem eX1_copyFrom_55 : zd 1 cX1_copyFrom 55 56 (.iastore) := ⟨by decide +kernel, rfl⟩
theorem eX1_copyFrom_56 : zd 3 cX1_copyFrom 56 59 (.iinc 2 1) := ⟨by decide +kernel, rfl⟩
theorem eX1_copyFrom_59 : zdi cX1_copyFrom 59 62 2 (.goto) := ⟨(-57), by decide +kernel, rfl, by decide⟩
theorem eX1_copyFrom_62 : zd 1 cX1_copyFrom 62 63 (.return_) := ⟨by decide +kernel, rfl⟩
theorem FX1_9 : zlF RX1 9 1 0 := ⟨(RX1, TX1, 4), rfl, by decide, q207, zin1⟩
theorem FX1_13 : zlF RX1 13 1 1 := ⟨(RX1, TX1, 4), rfl, by decide, q210, zin1⟩
theorem FX1_17 : zlF RX1 17 1 2 := ⟨(RX1, TX1, 4), rfl, by decide, q214, zin1⟩
theorem FX1_20 : zlF RX1 20 1 3 := ⟨(RX1, TX1, 4), rfl, by decide, q218, zin1⟩
noncomputable def fB_Li_copyFrom_2 (v1 : tLi) (ih : (Int32 × (Nat → Int32) × (Nat → Int32) × (Nat → Int32) × (Nat → Int32)) → Option (Int32 × (Nat → Int32) × (Nat → Int32) × (Nat → Int32) × (Nat → Int32))) (s1 : Int32 × (Nat → Int32) × (Nat → Int32) × (Nat → Int32) × (Nat → Int32)) : Option (Int32 × (Nat → Int32) × (Nat → Int32) × (Nat → Int32) × (Nat → Int32)) := (if 6 ≤ (s1.1) then (some ((s1.1), (s1.2.1), (s1.2.2.1), (s1.2.2.2.1), (s1.2.2.2.2))) else (if inb (s1.1) 6 = true then (if inb (s1.1) 6 = true then (if inb (s1.1) 6 = true then (if inb (s1.1) 6 = true then (if inb (s1.1) 6 = true then (if inb (s1.1) 6 = true then (if inb (s1.1) 6 = true then (if inb (s1.1) 6 = true then (ih (((s1.1) + 1), (upd (s1.2.1) (ix (s1.1)) (vp_nar .boolean ((gLi_fast v1) (ix (s1.1))))), (upd (s1.2.2.1) (ix (s1.1)) ((gLi_place v1) (ix (s1.1)))), (upd (s1.2.2.2.1) (ix (s1.1)) ((gLi_post v1) (ix (s1.1)))), (upd (s1.2.2.2.2) (ix (s1.1)) ((gLi_length v1) (ix (s1.1)))))) else none) else none) else none) else none) else none) else none) else none) else none))
noncomputable def f_Li_copyFrom (v0 : tLi) (v1 : tLi)  : Option ((Nat → Int32) × (Nat → Int32) × (Nat → Int32) × (Nat → Int32)) := (Option.bind (lp (fB_Li_copyFrom_2 v1) LF (0, (gLi_fast v0), (gLi_place v0), (gLi_post v0), (gLi_length v0))) (fun (q2 : Int32 × (Nat → Int32) × (Nat → Int32) × (Nat → Int32) × (Nat → Int32)) => (some ((q2.2.1), (q2.2.2.1), (q2.2.2.2.1), (q2.2.2.2.2)))))
abbrev rm_Li_copyFrom : Room := { frames := 0, cells := 0, slots := 0, locals := 0 }
set_option maxHeartbeats 4000000 in
set_option maxRecDepth 100000 in
theorem c_Li_copyFrom (l : Launch) (g : zGl) (a0 : Nat → Nat) (o0 : Nat) (v0 : tLi) (a1 : Nat → Nat) (o1 : Nat) (v1 : tLi)  (out : (Nat → Int32) × (Nat → Int32) × (Nat → Int32) × (Nat → Int32)) (hf : f_Li_copyFrom v0 v1 = some out) : zMv l yX1_copyFrom cX1_copyFrom 3 rm_Li_copyFrom g [.ref (a0 o0), .ref (a1 o1)] (W_Li g a0 o0 (gLi_fast v0) (gLi_place v0) (gLi_post v0) (gLi_length v0) ++ W_Li g a1 o1 (gLi_fast v1) (gLi_place v1) (gLi_post v1) (gLi_length v1))  (W_Li g a0 o0 (out.1) (out.2.1) (out.2.2.1) (out.2.2.2) ++ W_Li g a1 o1 (gLi_fast v1) (gLi_place v1) (gLi_post v1) (gLi_length v1)) := by
  refine zMv_of (lv := [(0, .ref (a0 o0)), (1, .ref (a1 o1))]) (by decide) (Nat.le_of_ble_eq_true rfl) rfl (fun x hl hg C hret => ?_)
  subst hl; subst hg
  rw [f_Li_copyFrom] at hf
  refine r_iconst C (v := 0) eX1_copyFrom_0 (by decide) ?_
  refine r_istore_n C [(2, .int 0), (0, .ref (a0 o0)), (1, .ref (a1 o1))] eX1_copyFrom_1 rfl (by decide) rfl ?_
  obtain ⟨q2, h3, hf⟩ := zbind hf
  have J4 : vV x 3 0 0 (W_Li (z_g x) a0 o0 (q2.2.1) (q2.2.2.1) (q2.2.2.2.1) (q2.2.2.2.2) ++ W_Li (z_g x) a1 o1 (gLi_fast v1) (gLi_place v1) (gLi_post v1) (gLi_length v1)) 62 [] [] := by
    obtain rfl := Option.some.inj (show some (((q2.2.1), (q2.2.2.1), (q2.2.2.2.1), (q2.2.2.2.2)) : (Nat → Int32) × (Nat → Int32) × (Nat → Int32) × (Nat → Int32)) = some _ from hf)
    exact hret _ _ _ eX1_copyFrom_62
  have L5 : ∀ (nL5 : Nat) (s1 : Int32 × (Nat → Int32) × (Nat → Int32) × (Nat → Int32) × (Nat → Int32)), lp (fB_Li_copyFrom_2 v1) nL5 s1 = some q2 → vV x 3 0 0 (W_Li (z_g x) a0 o0 (s1.2.1) (s1.2.2.1) (s1.2.2.2.1) (s1.2.2.2.2) ++ W_Li (z_g x) a1 o1 (gLi_fast v1) (gLi_place v1) (gLi_post v1) (gLi_length v1)) 2 [(0, .ref (a0 o0)), (1, .ref (a1 o1)), (2, .int (s1.1))] [] := by
    intro nL5
    induction nL5 with
    | zero => intro s1 hq; cases hq
    | succ nL5 ihL5 =>
      intro s1 hbL5
      rw [lp_succ, fB_Li_copyFrom_2] at hbL5
      refine r_iload_n C eX1_copyFrom_2 2 rfl rfl ?_
      refine r_bipush C (v := 6) eX1_copyFrom_3 (by decide) ?_
      refine r_icmp_ge C eX1_copyFrom_5 (fun c6 => ?_) (fun c6 => ?_)
      · rw [if_pos c6] at hbL5
        obtain rfl := Option.some.inj hbL5
        refine r_sub (lv' := []) [] rfl ?_
        exact J4
      · rw [if_neg c6] at hbL5
        refine r_aload_n C eX1_copyFrom_8 0 rfl rfl ?_
        refine r_get (v := .ref (a0 (o0 + 1))) C eX1_copyFrom_9 FX1_9 0 rfl rfl ?_
        refine r_iload_n C eX1_copyFrom_12 2 rfl rfl ?_
        refine r_aload_n C eX1_copyFrom_13 1 rfl rfl ?_
        refine r_get (v := .ref (a1 (o1 + 1))) C eX1_copyFrom_14 FX1_9 5 rfl rfl ?_
        refine r_iload_n C eX1_copyFrom_17 2 rfl rfl ?_
        obtain ⟨hb7, hbL5⟩ := zchk hbL5
        refine r_zald C eX1_copyFrom_18 6 rfl (inb_in hb7) ((gLi_fast v1) (ix (s1.1))) rfl ?_
        obtain ⟨hb8, hbL5⟩ := zchk hbL5
        refine r_zast (ws' := W_Li (z_g x) a0 o0 (upd (s1.2.1) (ix (s1.1)) (vp_nar .boolean ((gLi_fast v1) (ix (s1.1))))) (s1.2.2.1) (s1.2.2.2.1) (s1.2.2.2.2) ++ W_Li (z_g x) a1 o1 (gLi_fast v1) (gLi_place v1) (gLi_post v1) (gLi_length v1)) C eX1_copyFrom_19 1 rfl (inb_in hb8) rfl ?_
        refine r_aload_n C eX1_copyFrom_20 0 rfl rfl ?_
        refine r_get (v := .ref (a0 (o0 + 2))) C eX1_copyFrom_21 FX1_13 0 rfl rfl ?_
        refine r_iload_n C eX1_copyFrom_24 2 rfl rfl ?_
        refine r_aload_n C eX1_copyFrom_25 1 rfl rfl ?_
        refine r_get (v := .ref (a1 (o1 + 2))) C eX1_copyFrom_26 FX1_13 5 rfl rfl ?_
        refine r_iload_n C eX1_copyFrom_29 2 rfl rfl ?_
        obtain ⟨hb9, hbL5⟩ := zchk hbL5
        refine r_iald C eX1_copyFrom_30 7 rfl (inb_in hb9) ((gLi_place v1) (ix (s1.1))) rfl ?_
        obtain ⟨hb10, hbL5⟩ := zchk hbL5
        refine r_iast (ws' := W_Li (z_g x) a0 o0 (upd (s1.2.1) (ix (s1.1)) (vp_nar .boolean ((gLi_fast v1) (ix (s1.1))))) (upd (s1.2.2.1) (ix (s1.1)) ((gLi_place v1) (ix (s1.1)))) (s1.2.2.2.1) (s1.2.2.2.2) ++ W_Li (z_g x) a1 o1 (gLi_fast v1) (gLi_place v1) (gLi_post v1) (gLi_length v1)) C eX1_copyFrom_31 2 rfl (inb_in hb10) rfl ?_
        refine r_aload_n C eX1_copyFrom_32 0 rfl rfl ?_
        refine r_get (v := .ref (a0 (o0 + 3))) C eX1_copyFrom_33 FX1_17 0 rfl rfl ?_
        refine r_iload_n C eX1_copyFrom_36 2 rfl rfl ?_
        refine r_aload_n C eX1_copyFrom_37 1 rfl rfl ?_
        refine r_get (v := .ref (a1 (o1 + 3))) C eX1_copyFrom_38 FX1_17 5 rfl rfl ?_
        refine r_iload_n C eX1_copyFrom_41 2 rfl rfl ?_
        obtain ⟨hb11, hbL5⟩ := zchk hbL5
        refine r_iald C eX1_copyFrom_42 8 rfl (inb_in hb11) ((gLi_post v1) (ix (s1.1))) rfl ?_
        obtain ⟨hb12, hbL5⟩ := zchk hbL5
        refine r_iast (ws' := W_Li (z_g x) a0 o0 (upd (s1.2.1) (ix (s1.1)) (vp_nar .boolean ((gLi_fast v1) (ix (s1.1))))) (upd (s1.2.2.1) (ix (s1.1)) ((gLi_place v1) (ix (s1.1)))) (upd (s1.2.2.2.1) (ix (s1.1)) ((gLi_post v1) (ix (s1.1)))) (s1.2.2.2.2) ++ W_Li (z_g x) a1 o1 (gLi_fast v1) (gLi_place v1) (gLi_post v1) (gLi_length v1)) C eX1_copyFrom_43 3 rfl (inb_in hb12) rfl ?_
        refine r_aload_n C eX1_copyFrom_44 0 rfl rfl ?_
        refine r_get (v := .ref (a0 (o0 + 4))) C eX1_copyFrom_45 FX1_20 0 rfl rfl ?_
        refine r_iload_n C eX1_copyFrom_48 2 rfl rfl ?_
        refine r_aload_n C eX1_copyFrom_49 1 rfl rfl ?_
        refine r_get (v := .ref (a1 (o1 + 4))) C eX1_copyFrom_50 FX1_20 5 rfl rfl ?_
        refine r_iload_n C eX1_copyFrom_53 2 rfl rfl ?_
        obtain ⟨hb13, hbL5⟩ := zchk hbL5
        refine r_iald C eX1_copyFrom_54 9 rfl (inb_in hb13) ((gLi_length v1) (ix (s1.1))) rfl ?_
        obtain ⟨hb14, hbL5⟩ := zchk hbL5
        refine r_iast (ws' := W_Li (z_g x) a0 o0 (upd (s1.2.1) (ix (s1.1)) (vp_nar .boolean ((gLi_fast v1) (ix (s1.1))))) (upd (s1.2.2.1) (ix (s1.1)) ((gLi_place v1) (ix (s1.1)))) (upd (s1.2.2.2.1) (ix (s1.1)) ((gLi_post v1) (ix (s1.1)))) (upd (s1.2.2.2.2) (ix (s1.1)) ((gLi_length v1) (ix (s1.1)))) ++ W_Li (z_g x) a1 o1 (gLi_fast v1) (gLi_place v1) (gLi_post v1) (gLi_length v1)) C eX1_copyFrom_55 4 rfl (inb_in hb14) rfl ?_
        refine r_iinc C (v := ((s1.1) + 1)) [(2, .int ((s1.1) + 1)), (0, .ref (a0 o0)), (1, .ref (a1 o1))] eX1_copyFrom_56 2 rfl rfl (by decide) rfl ?_
        refine r_goto C eX1_copyFrom_59 ?_
        refine r_sub (lv' := [(0, .ref (a0 o0)), (1, .ref (a1 o1)), (2, .int ((s1.1) + 1))]) [1, 2, 0] rfl ?_
        have hc := ihL5 (((s1.1) + 1), (upd (s1.2.1) (ix (s1.1)) (vp_nar .boolean ((gLi_fast v1) (ix (s1.1))))), (upd (s1.2.2.1) (ix (s1.1)) ((gLi_place v1) (ix (s1.1)))), (upd (s1.2.2.2.1) (ix (s1.1)) ((gLi_post v1) (ix (s1.1)))), (upd (s1.2.2.2.2) (ix (s1.1)) ((gLi_length v1) (ix (s1.1))))) hbL5
        exact hc
  refine r_sub (lv' := [(0, .ref (a0 o0)), (1, .ref (a1 o1)), (2, .int 0)]) [1, 2, 0] rfl ?_
  have hc := L5 LF (0, (gLi_fast v0), (gLi_place v0), (gLi_post v0), (gLi_length v0)) h3
  exact hc
theorem eX1_count_0 : zd 1 cX1_count 0 1 (.iconst 0) := ⟨by decide +kernel, rfl⟩
theorem eX1_count_1 : zd 1 cX1_count 1 2 (.istore_n 1) := ⟨by decide +kernel, rfl⟩
theorem eX1_count_2 : zd 1 cX1_count 2 3 (.iconst 0) := ⟨by decide +kernel, rfl⟩
theorem eX1_count_3 : zd 1 cX1_count 3 4 (.istore_n 2) := ⟨by decide +kernel, rfl⟩
theorem eX1_count_4 : zd 1 cX1_count 4 5 (.iload_n 2) := ⟨by decide +kernel, rfl⟩
theorem eX1_count_5 : zd 2 cX1_count 5 7 (.bipush 6) := ⟨by decide +kernel, rfl⟩
theorem eX1_count_7 : zdi cX1_count 7 10 28 (.if_icmp .ge) := ⟨21, by decide +kernel, rfl, by decide⟩
theorem eX1_count_10 : zd 1 cX1_count 10 11 (.aload_n 0) := ⟨by decide +kernel, rfl⟩
theorem eX1_count_11 : zd 3 cX1_count 11 14 (.getfield 9) := ⟨by decide +kernel, rfl⟩
theorem eX1_count_14 : zd 1 cX1_count 14 15 (.iload_n 2) := ⟨by decide +kernel, rfl⟩
theorem eX1_count_15 : zd 1 cX1_count 15 16 (.baload) := ⟨by decide +kernel, rfl⟩
theorem eX1_count_16 : zdi cX1_count 16 19 22 (.ifCond .eq) := ⟨6, by decide +kernel, rfl, by decide⟩
theorem eX1_count_19 : zd 3 cX1_count 19 22 (.iinc 1 1) := ⟨by decide +kernel, rfl⟩
theorem eX1_count_22 : zd 3 cX1_count 22 25 (.iinc 2 1) := ⟨by decide +kernel, rfl⟩
theorem eX1_count_25 : zdi cX1_count 25 28 4 (.goto) := ⟨(-21), by decide +kernel, rfl, by decide⟩
theorem eX1_count_28 : zd 1 cX1_count 28 29 (.iload_n 1) := ⟨by decide +kernel, rfl⟩
theorem eX1_count_29 : zd 1 cX1_count 29 30 (.ireturn) := ⟨by decide +kernel, rfl⟩
noncomputable def fB_Li_count_4 (v0 : tLi) (ih : (Int32 × Int32) → Option (Int32 × Int32)) (s1 : Int32 × Int32) : Option (Int32 × Int32) := (if 6 ≤ (s1.2) then (some ((s1.1), (s1.2))) else (if inb (s1.2) 6 = true then (if ((gLi_fast v0) (ix (s1.2))) = 0 then (ih ((s1.1), ((s1.2) + 1))) else (ih (((s1.1) + 1), ((s1.2) + 1)))) else none))
noncomputable def f_Li_count (v0 : tLi)  : Option (Int32) := (Option.bind (lp (fB_Li_count_4 v0) LF (0, 0)) (fun (q2 : Int32 × Int32) => (some (q2.1))))
abbrev rm_Li_count : Room := { frames := 0, cells := 0, slots := 0, locals := 0 }
set_option maxHeartbeats 4000000 in
set_option maxRecDepth 100000 in
theorem c_Li_count (l : Launch) (g : zGl) (a0 : Nat → Nat) (o0 : Nat) (v0 : tLi)  (out : Int32) (hf : f_Li_count v0 = some out) : zMi l yX1_count cX1_count 3 rm_Li_count g [.ref (a0 o0)] (W_Li g a0 o0 (gLi_fast v0) (gLi_place v0) (gLi_post v0) (gLi_length v0)) out (W_Li g a0 o0 (gLi_fast v0) (gLi_place v0) (gLi_post v0) (gLi_length v0)) := by
  refine zMi_of (lv := [(0, .ref (a0 o0))]) (by decide) (Nat.le_of_ble_eq_true rfl) rfl (fun x hl hg C hret => ?_)
  subst hl; subst hg
  rw [f_Li_count] at hf
  refine r_iconst C (v := 0) eX1_count_0 (by decide) ?_
  refine r_istore_n C [(1, .int 0), (0, .ref (a0 o0))] eX1_count_1 rfl (by decide) rfl ?_
  refine r_iconst C (v := 0) eX1_count_2 (by decide) ?_
  refine r_istore_n C [(2, .int 0), (1, .int 0), (0, .ref (a0 o0))] eX1_count_3 rfl (by decide) rfl ?_
  obtain ⟨q2, h3, hf⟩ := zbind hf
  have J4 : vV x 3 0 0 (W_Li (z_g x) a0 o0 (gLi_fast v0) (gLi_place v0) (gLi_post v0) (gLi_length v0)) 28 [(1, .int (q2.1))] [] := by
    refine r_iload_n C eX1_count_28 0 rfl rfl ?_
    obtain rfl := Option.some.inj (show some ((q2.1) : Int32) = some _ from hf)
    exact hret _ _ _ eX1_count_29
  have L5 : ∀ (nL5 : Nat) (s1 : Int32 × Int32), lp (fB_Li_count_4 v0) nL5 s1 = some q2 → vV x 3 0 0 (W_Li (z_g x) a0 o0 (gLi_fast v0) (gLi_place v0) (gLi_post v0) (gLi_length v0)) 4 [(0, .ref (a0 o0)), (1, .int (s1.1)), (2, .int (s1.2))] [] := by
    intro nL5
    induction nL5 with
    | zero => intro s1 hq; cases hq
    | succ nL5 ihL5 =>
      intro s1 hbL5
      rw [lp_succ, fB_Li_count_4] at hbL5
      refine r_iload_n C eX1_count_4 2 rfl rfl ?_
      refine r_bipush C (v := 6) eX1_count_5 (by decide) ?_
      refine r_icmp_ge C eX1_count_7 (fun c6 => ?_) (fun c6 => ?_)
      · rw [if_pos c6] at hbL5
        obtain rfl := Option.some.inj hbL5
        refine r_sub (lv' := [(1, .int (s1.1))]) [1] rfl ?_
        exact J4
      · rw [if_neg c6] at hbL5
        refine r_aload_n C eX1_count_10 0 rfl rfl ?_
        refine r_get (v := .ref (a0 (o0 + 1))) C eX1_count_11 FX1_9 0 rfl rfl ?_
        refine r_iload_n C eX1_count_14 2 rfl rfl ?_
        obtain ⟨hb7, hbL5⟩ := zchk hbL5
        refine r_zald C eX1_count_15 1 rfl (inb_in hb7) ((gLi_fast v0) (ix (s1.2))) rfl ?_
        refine r_if_eq C eX1_count_16 (fun c8 => ?_) (fun c8 => ?_)
        · rw [if_pos c8] at hbL5
          refine r_iinc C (v := ((s1.2) + 1)) [(2, .int ((s1.2) + 1)), (0, .ref (a0 o0)), (1, .int (s1.1))] eX1_count_22 2 rfl rfl (by decide) rfl ?_
          refine r_goto C eX1_count_25 ?_
          refine r_sub (lv' := [(0, .ref (a0 o0)), (1, .int (s1.1)), (2, .int ((s1.2) + 1))]) [1, 2, 0] rfl ?_
          have hc := ihL5 ((s1.1), ((s1.2) + 1)) hbL5
          exact hc
        · rw [if_neg c8] at hbL5
          refine r_iinc C (v := ((s1.1) + 1)) [(1, .int ((s1.1) + 1)), (0, .ref (a0 o0)), (2, .int (s1.2))] eX1_count_19 1 rfl rfl (by decide) rfl ?_
          refine r_iinc C (v := ((s1.2) + 1)) [(2, .int ((s1.2) + 1)), (1, .int ((s1.1) + 1)), (0, .ref (a0 o0))] eX1_count_22 2 rfl rfl (by decide) rfl ?_
          refine r_goto C eX1_count_25 ?_
          refine r_sub (lv' := [(0, .ref (a0 o0)), (1, .int ((s1.1) + 1)), (2, .int ((s1.2) + 1))]) [2, 1, 0] rfl ?_
          have hc := ihL5 (((s1.1) + 1), ((s1.2) + 1)) hbL5
          exact hc
  refine r_sub (lv' := [(0, .ref (a0 o0)), (1, .int 0), (2, .int 0)]) [2, 1, 0] rfl ?_
  have hc := L5 LF (0, 0) h3
  exact hc
theorem eX1_isFast_0 : zd 1 cX1_isFast 0 1 (.iload_n 1) := ⟨by decide +kernel, rfl⟩
theorem eX1_isFast_1 : zdi cX1_isFast 1 4 23 (.ifCond .lt) := ⟨22, by decide +kernel, rfl, by decide⟩
theorem eX1_isFast_4 : zd 1 cX1_isFast 4 5 (.iload_n 1) := ⟨by decide +kernel, rfl⟩
theorem eX1_isFast_5 : zd 2 cX1_isFast 5 7 (.bipush 6) := ⟨by decide +kernel, rfl⟩
theorem eX1_isFast_7 : zdi cX1_isFast 7 10 23 (.if_icmp .ge) := ⟨16, by decide +kernel, rfl, by decide⟩
theorem eX1_isFast_10 : zd 1 cX1_isFast 10 11 (.aload_n 0) := ⟨by decide +kernel, rfl⟩
theorem eX1_isFast_11 : zd 3 cX1_isFast 11 14 (.getfield 9) := ⟨by decide +kernel, rfl⟩
theorem eX1_isFast_14 : zd 1 cX1_isFast 14 15 (.iload_n 1) := ⟨by decide +kernel, rfl⟩
theorem eX1_isFast_15 : zd 1 cX1_isFast 15 16 (.baload) := ⟨by decide +kernel, rfl⟩
theorem eX1_isFast_16 : zdi cX1_isFast 16 19 23 (.ifCond .eq) := ⟨7, by decide +kernel, rfl, by decide⟩
theorem eX1_isFast_19 : zd 1 cX1_isFast 19 20 (.iconst 1) := ⟨by decide +kernel, rfl⟩
theorem eX1_isFast_20 : zdi cX1_isFast 20 23 24 (.goto) := ⟨4, by decide +kernel, rfl, by decide⟩
theorem eX1_isFast_23 : zd 1 cX1_isFast 23 24 (.iconst 0) := ⟨by decide +kernel, rfl⟩
theorem eX1_isFast_24 : zd 1 cX1_isFast 24 25 (.ireturn) := ⟨by decide +kernel, rfl⟩
noncomputable def f_Li_isFast (v0 : tLi) (p1 : Int32) : Option (Int32) := (if p1 < 0 then (some 0) else (if 6 ≤ p1 then (some 0) else (if inb p1 6 = true then (if ((gLi_fast v0) (ix p1)) = 0 then (some 0) else (some 1)) else none)))
abbrev rm_Li_isFast : Room := { frames := 0, cells := 0, slots := 0, locals := 0 }
set_option maxHeartbeats 4000000 in
set_option maxRecDepth 100000 in
theorem c_Li_isFast (l : Launch) (g : zGl) (a0 : Nat → Nat) (o0 : Nat) (v0 : tLi) (p1 : Int32) (out : Int32) (hf : f_Li_isFast v0 p1 = some out) : zMz l yX1_isFast cX1_isFast 2 rm_Li_isFast g [.ref (a0 o0), .int p1] (W_Li g a0 o0 (gLi_fast v0) (gLi_place v0) (gLi_post v0) (gLi_length v0)) out (W_Li g a0 o0 (gLi_fast v0) (gLi_place v0) (gLi_post v0) (gLi_length v0)) := by
  refine zMz_of (lv := [(0, .ref (a0 o0)), (1, .int p1)]) (by decide) (Nat.le_of_ble_eq_true rfl) rfl (fun x hl hg C hret => ?_)
  subst hl; subst hg
  rw [f_Li_isFast] at hf
  refine r_iload_n C eX1_isFast_0 1 rfl rfl ?_
  refine r_if_lt C eX1_isFast_1 (fun c1 => ?_) (fun c1 => ?_)
  · rw [if_pos c1] at hf
    refine r_iconst C (v := 0) eX1_isFast_23 (by decide) ?_
    obtain rfl := Option.some.inj (show some (0 : Int32) = some _ from hf)
    exact hret _ _ _ eX1_isFast_24 zB0
  · rw [if_neg c1] at hf
    refine r_iload_n C eX1_isFast_4 1 rfl rfl ?_
    refine r_bipush C (v := 6) eX1_isFast_5 (by decide) ?_
    refine r_icmp_ge C eX1_isFast_7 (fun c2 => ?_) (fun c2 => ?_)
    · rw [if_pos c2] at hf
      refine r_iconst C (v := 0) eX1_isFast_23 (by decide) ?_
      obtain rfl := Option.some.inj (show some (0 : Int32) = some _ from hf)
      exact hret _ _ _ eX1_isFast_24 zB0
    · rw [if_neg c2] at hf
      refine r_aload_n C eX1_isFast_10 0 rfl rfl ?_
      refine r_get (v := .ref (a0 (o0 + 1))) C eX1_isFast_11 FX1_9 0 rfl rfl ?_
      refine r_iload_n C eX1_isFast_14 1 rfl rfl ?_
      obtain ⟨hb3, hf⟩ := zchk hf
      refine r_zald C eX1_isFast_15 1 rfl (inb_in hb3) ((gLi_fast v0) (ix p1)) rfl ?_
      refine r_if_eq C eX1_isFast_16 (fun c4 => ?_) (fun c4 => ?_)
      · rw [if_pos c4] at hf
        refine r_iconst C (v := 0) eX1_isFast_23 (by decide) ?_
        obtain rfl := Option.some.inj (show some (0 : Int32) = some _ from hf)
        exact hret _ _ _ eX1_isFast_24 zB0
      · rw [if_neg c4] at hf
        refine r_iconst C (v := 1) eX1_isFast_19 (by decide) ?_
        refine r_goto C eX1_isFast_20 ?_
        obtain rfl := Option.some.inj (show some (1 : Int32) = some _ from hf)
        exact hret _ _ _ eX1_isFast_24 zB1
theorem eX1_isNumber_0 : zd 1 cX1_isNumber 0 1 (.iload_n 0) := ⟨by decide +kernel, rfl⟩
theorem eX1_isNumber_1 : zdi cX1_isNumber 1 4 14 (.ifCond .lt) := ⟨13, by decide +kernel, rfl, by decide⟩
theorem eX1_isNumber_4 : zd 1 cX1_isNumber 4 5 (.iload_n 0) := ⟨by decide +kernel, rfl⟩
theorem eX1_isNumber_5 : zd 2 cX1_isNumber 5 7 (.bipush 6) := ⟨by decide +kernel, rfl⟩
theorem eX1_isNumber_7 : zdi cX1_isNumber 7 10 14 (.if_icmp .ge) := ⟨7, by decide +kernel, rfl, by decide⟩
theorem eX1_isNumber_10 : zd 1 cX1_isNumber 10 11 (.iconst 1) := ⟨by decide +kernel, rfl⟩
theorem eX1_isNumber_11 : zdi cX1_isNumber 11 14 15 (.goto) := ⟨4, by decide +kernel, rfl, by decide⟩
theorem eX1_isNumber_14 : zd 1 cX1_isNumber 14 15 (.iconst 0) := ⟨by decide +kernel, rfl⟩
theorem eX1_isNumber_15 : zd 1 cX1_isNumber 15 16 (.ireturn) := ⟨by decide +kernel, rfl⟩
noncomputable def f_Li_isNumber  (p1 : Int32) : Int32 := (if p1 < 0 then 0 else (if 6 ≤ p1 then 0 else 1))
abbrev rm_Li_isNumber : Room := { frames := 0, cells := 0, slots := 0, locals := 0 }
set_option maxHeartbeats 4000000 in
set_option maxRecDepth 100000 in
theorem c_Li_isNumber (l : Launch) (g : zGl)  (p1 : Int32) (out : Int32) (hf : f_Li_isNumber p1 = out) : zMz l yX1_isNumber cX1_isNumber 1 rm_Li_isNumber g [.int p1] ([]) out ([]) := by
  refine zMz_of (lv := [(0, .int p1)]) (by decide) (Nat.le_of_ble_eq_true rfl) rfl (fun x hl hg C hret => ?_)
  subst hl; subst hg
  rw [f_Li_isNumber] at hf
  refine r_iload_n C eX1_isNumber_0 0 rfl rfl ?_
  refine r_if_lt C eX1_isNumber_1 (fun c1 => ?_) (fun c1 => ?_)
  · rw [if_pos c1] at hf
    refine r_iconst C (v := 0) eX1_isNumber_14 (by decide) ?_
    subst hf
    exact hret _ _ _ eX1_isNumber_15 zB0
  · rw [if_neg c1] at hf
    refine r_iload_n C eX1_isNumber_4 0 rfl rfl ?_
    refine r_bipush C (v := 6) eX1_isNumber_5 (by decide) ?_
    refine r_icmp_ge C eX1_isNumber_7 (fun c2 => ?_) (fun c2 => ?_)
    · rw [if_pos c2] at hf
      refine r_iconst C (v := 0) eX1_isNumber_14 (by decide) ?_
      subst hf
      exact hret _ _ _ eX1_isNumber_15 zB0
    · rw [if_neg c2] at hf
      refine r_iconst C (v := 1) eX1_isNumber_10 (by decide) ?_
      refine r_goto C eX1_isNumber_11 ?_
      subst hf
      exact hret _ _ _ eX1_isNumber_15 zB1
theorem eX1_letAllGo_0 : zd 1 cX1_letAllGo 0 1 (.iconst 0) := ⟨by decide +kernel, rfl⟩
theorem eX1_letAllGo_1 : zd 1 cX1_letAllGo 1 2 (.istore_n 1) := ⟨by decide +kernel, rfl⟩
theorem eX1_letAllGo_2 : zd 1 cX1_letAllGo 2 3 (.iload_n 1) := ⟨by decide +kernel, rfl⟩
theorem eX1_letAllGo_3 : zd 2 cX1_letAllGo 3 5 (.bipush 6) := ⟨by decide +kernel, rfl⟩
theorem eX1_letAllGo_5 : zdi cX1_letAllGo 5 8 21 (.if_icmp .ge) := ⟨16, by decide +kernel, rfl, by decide⟩
theorem eX1_letAllGo_8 : zd 1 cX1_letAllGo 8 9 (.aload_n 0) := ⟨by decide +kernel, rfl⟩
theorem eX1_letAllGo_9 : zd 3 cX1_letAllGo 9 12 (.getfield 9) := ⟨by decide +kernel, rfl⟩
theorem eX1_letAllGo_12 : zd 1 cX1_letAllGo 12 13 (.iload_n 1) := ⟨by decide +kernel, rfl⟩
theorem eX1_letAllGo_13 : zd 1 cX1_letAllGo 13 14 (.iconst 0) := ⟨by decide +kernel, rfl⟩
theorem eX1_letAllGo_14 : zd 1 cX1_letAllGo 14 15 (.bastore) := ⟨by decide +kernel, rfl⟩
theorem eX1_letAllGo_15 : zd 3 cX1_letAllGo 15 18 (.iinc 1 1) := ⟨by decide +kernel, rfl⟩
theorem eX1_letAllGo_18 : zdi cX1_letAllGo 18 21 2 (.goto) := ⟨(-16), by decide +kernel, rfl, by decide⟩
theorem eX1_letAllGo_21 : zd 1 cX1_letAllGo 21 22 (.return_) := ⟨by decide +kernel, rfl⟩
noncomputable def fB_Li_letAllGo_2  (ih : (Int32 × (Nat → Int32)) → Option (Int32 × (Nat → Int32))) (s1 : Int32 × (Nat → Int32)) : Option (Int32 × (Nat → Int32)) := (if 6 ≤ (s1.1) then (some ((s1.1), (s1.2))) else (if inb (s1.1) 6 = true then (ih (((s1.1) + 1), (upd (s1.2) (ix (s1.1)) (vp_nar .boolean 0)))) else none))
noncomputable def f_Li_letAllGo (v0 : tLi)  : Option ((Nat → Int32)) := (Option.bind (lp (fB_Li_letAllGo_2) LF (0, (gLi_fast v0))) (fun (q2 : Int32 × (Nat → Int32)) => (some (q2.2))))
abbrev rm_Li_letAllGo : Room := { frames := 0, cells := 0, slots := 0, locals := 0 }
set_option maxHeartbeats 4000000 in
set_option maxRecDepth 100000 in
theorem c_Li_letAllGo (l : Launch) (g : zGl) (a0 : Nat → Nat) (o0 : Nat) (v0 : tLi)  (out : (Nat → Int32)) (hf : f_Li_letAllGo v0 = some out) : zMv l yX1_letAllGo cX1_letAllGo 2 rm_Li_letAllGo g [.ref (a0 o0)] (W_Li g a0 o0 (gLi_fast v0) (gLi_place v0) (gLi_post v0) (gLi_length v0))  (W_Li g a0 o0 out (gLi_place v0) (gLi_post v0) (gLi_length v0)) := by
  refine zMv_of (lv := [(0, .ref (a0 o0))]) (by decide) (Nat.le_of_ble_eq_true rfl) rfl (fun x hl hg C hret => ?_)
  subst hl; subst hg
  rw [f_Li_letAllGo] at hf
  refine r_iconst C (v := 0) eX1_letAllGo_0 (by decide) ?_
  refine r_istore_n C [(1, .int 0), (0, .ref (a0 o0))] eX1_letAllGo_1 rfl (by decide) rfl ?_
  obtain ⟨q2, h3, hf⟩ := zbind hf
  have J4 : vV x 2 0 0 (W_Li (z_g x) a0 o0 (q2.2) (gLi_place v0) (gLi_post v0) (gLi_length v0)) 21 [] [] := by
    obtain rfl := Option.some.inj (show some ((q2.2) : (Nat → Int32)) = some _ from hf)
    exact hret _ _ _ eX1_letAllGo_21
  have L5 : ∀ (nL5 : Nat) (s1 : Int32 × (Nat → Int32)), lp (fB_Li_letAllGo_2) nL5 s1 = some q2 → vV x 2 0 0 (W_Li (z_g x) a0 o0 (s1.2) (gLi_place v0) (gLi_post v0) (gLi_length v0)) 2 [(0, .ref (a0 o0)), (1, .int (s1.1))] [] := by
    intro nL5
    induction nL5 with
    | zero => intro s1 hq; cases hq
    | succ nL5 ihL5 =>
      intro s1 hbL5
      rw [lp_succ, fB_Li_letAllGo_2] at hbL5
      refine r_iload_n C eX1_letAllGo_2 1 rfl rfl ?_
      refine r_bipush C (v := 6) eX1_letAllGo_3 (by decide) ?_
      refine r_icmp_ge C eX1_letAllGo_5 (fun c6 => ?_) (fun c6 => ?_)
      · rw [if_pos c6] at hbL5
        obtain rfl := Option.some.inj hbL5
        refine r_sub (lv' := []) [] rfl ?_
        exact J4
      · rw [if_neg c6] at hbL5
        refine r_aload_n C eX1_letAllGo_8 0 rfl rfl ?_
        refine r_get (v := .ref (a0 (o0 + 1))) C eX1_letAllGo_9 FX1_9 0 rfl rfl ?_
        refine r_iload_n C eX1_letAllGo_12 1 rfl rfl ?_
        refine r_iconst C (v := 0) eX1_letAllGo_13 (by decide) ?_
        obtain ⟨hb7, hbL5⟩ := zchk hbL5
        refine r_zast (ws' := W_Li (z_g x) a0 o0 (upd (s1.2) (ix (s1.1)) (vp_nar .boolean 0)) (gLi_place v0) (gLi_post v0) (gLi_length v0)) C eX1_letAllGo_14 1 rfl (inb_in hb7) rfl ?_
        refine r_iinc C (v := ((s1.1) + 1)) [(1, .int ((s1.1) + 1)), (0, .ref (a0 o0))] eX1_letAllGo_15 1 rfl rfl (by decide) rfl ?_
        refine r_goto C eX1_letAllGo_18 ?_
        refine r_sub (lv' := [(0, .ref (a0 o0)), (1, .int ((s1.1) + 1))]) [1, 0] rfl ?_
        have hc := ihL5 (((s1.1) + 1), (upd (s1.2) (ix (s1.1)) (vp_nar .boolean 0))) hbL5
        exact hc
  refine r_sub (lv' := [(0, .ref (a0 o0)), (1, .int 0)]) [1, 0] rfl ?_
  have hc := L5 LF (0, (gLi_fast v0)) h3
  exact hc
theorem eX1_makeFast_0 : zd 1 cX1_makeFast 0 1 (.iload_n 1) := ⟨by decide +kernel, rfl⟩
theorem eX1_makeFast_1 : zdi cX1_makeFast 1 4 39 (.ifCond .lt) := ⟨38, by decide +kernel, rfl, by decide⟩
theorem eX1_makeFast_4 : zd 1 cX1_makeFast 4 5 (.iload_n 1) := ⟨by decide +kernel, rfl⟩
theorem eX1_makeFast_5 : zd 2 cX1_makeFast 5 7 (.bipush 6) := ⟨by decide +kernel, rfl⟩
theorem eX1_makeFast_7 : zdi cX1_makeFast 7 10 39 (.if_icmp .ge) := ⟨32, by decide +kernel, rfl, by decide⟩
theorem eX1_makeFast_10 : zd 1 cX1_makeFast 10 11 (.aload_n 0) := ⟨by decide +kernel, rfl⟩
theorem eX1_makeFast_11 : zd 3 cX1_makeFast 11 14 (.getfield 9) := ⟨by decide +kernel, rfl⟩
theorem eX1_makeFast_14 : zd 1 cX1_makeFast 14 15 (.iload_n 1) := ⟨by decide +kernel, rfl⟩
theorem eX1_makeFast_15 : zd 1 cX1_makeFast 15 16 (.iconst 1) := ⟨by decide +kernel, rfl⟩
theorem eX1_makeFast_16 : zd 1 cX1_makeFast 16 17 (.bastore) := ⟨by decide +kernel, rfl⟩
theorem eX1_makeFast_17 : zd 1 cX1_makeFast 17 18 (.aload_n 0) := ⟨by decide +kernel, rfl⟩
theorem eX1_makeFast_18 : zd 3 cX1_makeFast 18 21 (.getfield 13) := ⟨by decide +kernel, rfl⟩
theorem eX1_makeFast_21 : zd 1 cX1_makeFast 21 22 (.iload_n 1) := ⟨by decide +kernel, rfl⟩
theorem eX1_makeFast_22 : zd 1 cX1_makeFast 22 23 (.iload_n 2) := ⟨by decide +kernel, rfl⟩
theorem eX1_makeFast_23 : zd 1 cX1_makeFast 23 24 (.iastore) := ⟨by decide +kernel, rfl⟩
theorem eX1_makeFast_24 : zd 1 cX1_makeFast 24 25 (.aload_n 0) := ⟨by decide +kernel, rfl⟩
theorem eX1_makeFast_25 : zd 3 cX1_makeFast 25 28 (.getfield 17) := ⟨by decide +kernel, rfl⟩
theorem eX1_makeFast_28 : zd 1 cX1_makeFast 28 29 (.iload_n 1) := ⟨by decide +kernel, rfl⟩
theorem eX1_makeFast_29 : zd 1 cX1_makeFast 29 30 (.iload_n 3) := ⟨by decide +kernel, rfl⟩
theorem eX1_makeFast_30 : zd 1 cX1_makeFast 30 31 (.iastore) := ⟨by decide +kernel, rfl⟩
theorem eX1_makeFast_31 : zd 1 cX1_makeFast 31 32 (.aload_n 0) := ⟨by decide +kernel, rfl⟩
theorem eX1_makeFast_32 : zd 3 cX1_makeFast 32 35 (.getfield 20) := ⟨by decide +kernel, rfl⟩
theorem eX1_makeFast_35 : zd 1 cX1_makeFast 35 36 (.iload_n 1) := ⟨by decide +kernel, rfl⟩
theorem eX1_makeFast_36 : zd 2 cX1_makeFast 36 38 (.iload 4) := ⟨by decide +kernel, rfl⟩
theorem eX1_makeFast_38 : zd 1 cX1_makeFast 38 39 (.iastore) := ⟨by decide +kernel, rfl⟩
theorem eX1_makeFast_39 : zd 1 cX1_makeFast 39 40 (.return_) := ⟨by decide +kernel, rfl⟩
noncomputable def f_Li_makeFast (v0 : tLi) (p1 : Int32) (p2 : Int32) (p3 : Int32) (p4 : Int32) : Option ((Nat → Int32) × (Nat → Int32) × (Nat → Int32) × (Nat → Int32)) := (if p1 < 0 then (some ((gLi_fast v0), (gLi_place v0), (gLi_post v0), (gLi_length v0))) else (if 6 ≤ p1 then (some ((gLi_fast v0), (gLi_place v0), (gLi_post v0), (gLi_length v0))) else (if inb p1 6 = true then (if inb p1 6 = true then (if inb p1 6 = true then (if inb p1 6 = true then (some ((upd (gLi_fast v0) (ix p1) (vp_nar .boolean 1)), (upd (gLi_place v0) (ix p1) p2), (upd (gLi_post v0) (ix p1) p3), (upd (gLi_length v0) (ix p1) p4))) else none) else none) else none) else none)))
abbrev rm_Li_makeFast : Room := { frames := 0, cells := 0, slots := 0, locals := 0 }
set_option maxHeartbeats 4000000 in
set_option maxRecDepth 100000 in
theorem c_Li_makeFast (l : Launch) (g : zGl) (a0 : Nat → Nat) (o0 : Nat) (v0 : tLi) (p1 : Int32) (p2 : Int32) (p3 : Int32) (p4 : Int32) (out : (Nat → Int32) × (Nat → Int32) × (Nat → Int32) × (Nat → Int32)) (hf : f_Li_makeFast v0 p1 p2 p3 p4 = some out) : zMv l yX1_makeFast cX1_makeFast 5 rm_Li_makeFast g [.ref (a0 o0), .int p1, .int p2, .int p3, .int p4] (W_Li g a0 o0 (gLi_fast v0) (gLi_place v0) (gLi_post v0) (gLi_length v0))  (W_Li g a0 o0 (out.1) (out.2.1) (out.2.2.1) (out.2.2.2)) := by
  refine zMv_of (lv := [(0, .ref (a0 o0)), (1, .int p1), (2, .int p2), (3, .int p3), (4, .int p4)]) (by decide) (Nat.le_of_ble_eq_true rfl) rfl (fun x hl hg C hret => ?_)
  subst hl; subst hg
  rw [f_Li_makeFast] at hf
  refine r_iload_n C eX1_makeFast_0 1 rfl rfl ?_
  refine r_if_lt C eX1_makeFast_1 (fun c1 => ?_) (fun c1 => ?_)
  · rw [if_pos c1] at hf
    obtain rfl := Option.some.inj (show some (((gLi_fast v0), (gLi_place v0), (gLi_post v0), (gLi_length v0)) : (Nat → Int32) × (Nat → Int32) × (Nat → Int32) × (Nat → Int32)) = some _ from hf)
    exact hret _ _ _ eX1_makeFast_39
  · rw [if_neg c1] at hf
    refine r_iload_n C eX1_makeFast_4 1 rfl rfl ?_
    refine r_bipush C (v := 6) eX1_makeFast_5 (by decide) ?_
    refine r_icmp_ge C eX1_makeFast_7 (fun c2 => ?_) (fun c2 => ?_)
    · rw [if_pos c2] at hf
      obtain rfl := Option.some.inj (show some (((gLi_fast v0), (gLi_place v0), (gLi_post v0), (gLi_length v0)) : (Nat → Int32) × (Nat → Int32) × (Nat → Int32) × (Nat → Int32)) = some _ from hf)
      exact hret _ _ _ eX1_makeFast_39
    · rw [if_neg c2] at hf
      refine r_aload_n C eX1_makeFast_10 0 rfl rfl ?_
      refine r_get (v := .ref (a0 (o0 + 1))) C eX1_makeFast_11 FX1_9 0 rfl rfl ?_
      refine r_iload_n C eX1_makeFast_14 1 rfl rfl ?_
      refine r_iconst C (v := 1) eX1_makeFast_15 (by decide) ?_
      obtain ⟨hb3, hf⟩ := zchk hf
      refine r_zast (ws' := W_Li (z_g x) a0 o0 (upd (gLi_fast v0) (ix p1) (vp_nar .boolean 1)) (gLi_place v0) (gLi_post v0) (gLi_length v0)) C eX1_makeFast_16 1 rfl (inb_in hb3) rfl ?_
      refine r_aload_n C eX1_makeFast_17 0 rfl rfl ?_
      refine r_get (v := .ref (a0 (o0 + 2))) C eX1_makeFast_18 FX1_13 0 rfl rfl ?_
      refine r_iload_n C eX1_makeFast_21 1 rfl rfl ?_
      refine r_iload_n C eX1_makeFast_22 2 rfl rfl ?_
      obtain ⟨hb4, hf⟩ := zchk hf
      refine r_iast (ws' := W_Li (z_g x) a0 o0 (upd (gLi_fast v0) (ix p1) (vp_nar .boolean 1)) (upd (gLi_place v0) (ix p1) p2) (gLi_post v0) (gLi_length v0)) C eX1_makeFast_23 2 rfl (inb_in hb4) rfl ?_
      refine r_aload_n C eX1_makeFast_24 0 rfl rfl ?_
      refine r_get (v := .ref (a0 (o0 + 3))) C eX1_makeFast_25 FX1_17 0 rfl rfl ?_
      refine r_iload_n C eX1_makeFast_28 1 rfl rfl ?_
      refine r_iload_n C eX1_makeFast_29 3 rfl rfl ?_
      obtain ⟨hb5, hf⟩ := zchk hf
      refine r_iast (ws' := W_Li (z_g x) a0 o0 (upd (gLi_fast v0) (ix p1) (vp_nar .boolean 1)) (upd (gLi_place v0) (ix p1) p2) (upd (gLi_post v0) (ix p1) p3) (gLi_length v0)) C eX1_makeFast_30 3 rfl (inb_in hb5) rfl ?_
      refine r_aload_n C eX1_makeFast_31 0 rfl rfl ?_
      refine r_get (v := .ref (a0 (o0 + 4))) C eX1_makeFast_32 FX1_20 0 rfl rfl ?_
      refine r_iload_n C eX1_makeFast_35 1 rfl rfl ?_
      refine r_iload C eX1_makeFast_36 4 rfl ?_
      obtain ⟨hb6, hf⟩ := zchk hf
      refine r_iast (ws' := W_Li (z_g x) a0 o0 (upd (gLi_fast v0) (ix p1) (vp_nar .boolean 1)) (upd (gLi_place v0) (ix p1) p2) (upd (gLi_post v0) (ix p1) p3) (upd (gLi_length v0) (ix p1) p4)) C eX1_makeFast_38 4 rfl (inb_in hb6) rfl ?_
      obtain rfl := Option.some.inj (show some (((upd (gLi_fast v0) (ix p1) (vp_nar .boolean 1)), (upd (gLi_place v0) (ix p1) p2), (upd (gLi_post v0) (ix p1) p3), (upd (gLi_length v0) (ix p1) p4)) : (Nat → Int32) × (Nat → Int32) × (Nat → Int32) × (Nat → Int32)) = some _ from hf)
      exact hret _ _ _ eX1_makeFast_39
