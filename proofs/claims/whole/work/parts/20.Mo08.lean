theorem eX11_plan_0 : zd 1 cX11_plan 0 1 (.aload_n 0) := ⟨by decide +kernel, rfl⟩
theorem eX11_plan_1 : zd 1 cX11_plan 1 2 (.iconst (-1)) := ⟨by decide +kernel, rfl⟩
theorem eX11_plan_2 : zd 3 cX11_plan 2 5 (.putfield 35) := ⟨by decide +kernel, rfl⟩
theorem eX11_plan_5 : zd 1 cX11_plan 5 6 (.aload_n 0) := ⟨by decide +kernel, rfl⟩
theorem eX11_plan_6 : zd 1 cX11_plan 6 7 (.iconst 0) := ⟨by decide +kernel, rfl⟩
theorem eX11_plan_7 : zd 3 cX11_plan 7 10 (.putfield 97) := ⟨by decide +kernel, rfl⟩
theorem eX11_plan_10 : zd 1 cX11_plan 10 11 (.aload_n 0) := ⟨by decide +kernel, rfl⟩
theorem eX11_plan_11 : zd 1 cX11_plan 11 12 (.iconst 0) := ⟨by decide +kernel, rfl⟩
theorem eX11_plan_12 : zd 3 cX11_plan 12 15 (.putfield 181) := ⟨by decide +kernel, rfl⟩
theorem eX11_plan_15 : zd 1 cX11_plan 15 16 (.iconst 0) := ⟨by decide +kernel, rfl⟩
theorem eX11_plan_16 : zd 1 cX11_plan 16 17 (.istore_n 1) := ⟨by decide +kernel, rfl⟩
theorem eX11_plan_17 : zd 1 cX11_plan 17 18 (.iload_n 1) := ⟨by decide +kernel, rfl⟩
theorem eX11_plan_18 : zdi cX11_plan 18 21 36 (.ifCond .ne) := ⟨18, by decide +kernel, rfl, by decide⟩
theorem eX11_plan_21 : zd 1 cX11_plan 21 22 (.aload_n 0) := ⟨by decide +kernel, rfl⟩
theorem eX11_plan_22 : zd 3 cX11_plan 22 25 (.invokevirtual 100) := ⟨by decide +kernel, rfl⟩
theorem eX11_plan_25 : zdi cX11_plan 25 28 36 (.ifCond .lt) := ⟨11, by decide +kernel, rfl, by decide⟩
theorem eX11_plan_28 : zd 1 cX11_plan 28 29 (.aload_n 0) := ⟨by decide +kernel, rfl⟩
theorem eX11_plan_29 : zd 3 cX11_plan 29 32 (.invokevirtual 184) := ⟨by decide +kernel, rfl⟩
theorem eX11_plan_32 : zd 1 cX11_plan 32 33 (.istore_n 1) := ⟨by decide +kernel, rfl⟩
theorem eX11_plan_33 : zdi cX11_plan 33 36 17 (.goto) := ⟨(-16), by decide +kernel, rfl, by decide⟩
theorem eX11_plan_36 : zd 1 cX11_plan 36 37 (.aload_n 0) := ⟨by decide +kernel, rfl⟩
theorem eX11_plan_37 : zd 1 cX11_plan 37 38 (.iconst 0) := ⟨by decide +kernel, rfl⟩
theorem eX11_plan_38 : zd 3 cX11_plan 38 41 (.putfield 91) := ⟨by decide +kernel, rfl⟩
theorem eX11_plan_41 : zd 1 cX11_plan 41 42 (.iload_n 1) := ⟨by decide +kernel, rfl⟩
theorem eX11_plan_42 : zdi cX11_plan 42 45 50 (.ifCond .le) := ⟨8, by decide +kernel, rfl, by decide⟩
theorem eX11_plan_45 : zd 2 cX11_plan 45 47 (.bipush (-10)) := ⟨by decide +kernel, rfl⟩
theorem eX11_plan_47 : zd 1 cX11_plan 47 48 (.iload_n 1) := ⟨by decide +kernel, rfl⟩
theorem eX11_plan_48 : zd 1 cX11_plan 48 49 (.isub) := ⟨by decide +kernel, rfl⟩
theorem eX11_plan_49 : zd 1 cX11_plan 49 50 (.ireturn) := ⟨by decide +kernel, rfl⟩
theorem eX11_plan_50 : zd 1 cX11_plan 50 51 (.aload_n 0) := ⟨by decide +kernel, rfl⟩
theorem eX11_plan_51 : zd 1 cX11_plan 51 52 (.aload_n 0) := ⟨by decide +kernel, rfl⟩
theorem eX11_plan_52 : zd 3 cX11_plan 52 55 (.getfield 181) := ⟨by decide +kernel, rfl⟩
theorem eX11_plan_55 : zd 3 cX11_plan 55 58 (.putfield 187) := ⟨by decide +kernel, rfl⟩
theorem eX11_plan_58 : zd 1 cX11_plan 58 59 (.iconst 0) := ⟨by decide +kernel, rfl⟩
theorem eX11_plan_59 : zd 1 cX11_plan 59 60 (.istore_n 2) := ⟨by decide +kernel, rfl⟩
theorem eX11_plan_60 : zd 1 cX11_plan 60 61 (.iload_n 2) := ⟨by decide +kernel, rfl⟩
theorem eX11_plan_61 : zd 2 cX11_plan 61 63 (.bipush 60) := ⟨by decide +kernel, rfl⟩
theorem eX11_plan_63 : zdi cX11_plan 63 66 84 (.if_icmp .ge) := ⟨21, by decide +kernel, rfl, by decide⟩
theorem eX11_plan_66 : zd 1 cX11_plan 66 67 (.aload_n 0) := ⟨by decide +kernel, rfl⟩
theorem eX11_plan_67 : zd 3 cX11_plan 67 70 (.getfield 19) := ⟨by decide +kernel, rfl⟩
theorem eX11_plan_70 : zd 1 cX11_plan 70 71 (.iload_n 2) := ⟨by decide +kernel, rfl⟩
theorem eX11_plan_71 : zd 1 cX11_plan 71 72 (.aload_n 0) := ⟨by decide +kernel, rfl⟩
theorem eX11_plan_72 : zd 3 cX11_plan 72 75 (.getfield 48) := ⟨by decide +kernel, rfl⟩
theorem eX11_plan_75 : zd 1 cX11_plan 75 76 (.iload_n 2) := ⟨by decide +kernel, rfl⟩
theorem eX11_plan_76 : zd 1 cX11_plan 76 77 (.iaload) := ⟨by decide +kernel, rfl⟩
theorem eX11_plan_77 : zd 1 cX11_plan 77 78 (.iastore) := ⟨by decide +kernel, rfl⟩
theorem eX11_plan_78 : zd 3 cX11_plan 78 81 (.iinc 2 1) := ⟨by decide +kernel, rfl⟩
theorem eX11_plan_81 : zdi cX11_plan 81 84 60 (.goto) := ⟨(-21), by decide +kernel, rfl, by decide⟩
theorem eX11_plan_84 : zd 1 cX11_plan 84 85 (.aload_n 0) := ⟨by decide +kernel, rfl⟩
theorem eX11_plan_85 : zd 3 cX11_plan 85 88 (.getfield 187) := ⟨by decide +kernel, rfl⟩
theorem eX11_plan_88 : zd 1 cX11_plan 88 89 (.ireturn) := ⟨by decide +kernel, rfl⟩
theorem PX11_187 : zlP RX11 187 11 4 .int := ⟨(RX11, TX11, 34), tyX11, rfl, by decide, q1075, zin11, tyX11_ok, nmX11, rfl, by decide +kernel⟩
theorem MX11_184 : zlV RX11 184 yX11_takeAt cX11_takeAt 2 ((Option.some FieldType.int)) 0 := ⟨q1246, q1248, qs35, q12, q1249, by decide, by decide, by decide +kernel⟩
noncomputable def fB_Mo_plan_17 (v0 : tMo) (ih : (Int32 × (Nat → Int32) × Int64 × (Nat → Int32)) → Option (Int32 × (Nat → Int32) × Int64 × (Nat → Int32))) (s1 : Int32 × (Nat → Int32) × Int64 × (Nat → Int32)) : Option (Int32 × (Nat → Int32) × Int64 × (Nat → Int32)) := (if (s1.1) = 0 then (Option.bind (f_Mo_here ((s1.2.1), (gMo_told v0), (gMo_postX v0), (gMo_postStrong v0), (gMo_atRow v0), (gMo_heights v0), (gMo_ship v0), (gMo_lines v0), (gMo_text v0), (s1.2.2.1), (gMo_readTold v0), (gMo_readX v0), (gMo_readStrong v0), (s1.2.2.2), (gMo_parting v0), (gMo_wasShip v0), (gMo_wasLines v0), (gMo_worst v0), (gMo_logRow v0), (gMo_images v0), (gMo_isKept v0))) (fun (r7 : Int32 × (Nat → Int32)) => (if (r7.1) < 0 then (some ((s1.1), (r7.2), (s1.2.2.1), (s1.2.2.2))) else (Option.bind (f_Mo_takeAt ((r7.2), (gMo_told v0), (gMo_postX v0), (gMo_postStrong v0), (gMo_atRow v0), (gMo_heights v0), (gMo_ship v0), (gMo_lines v0), (gMo_text v0), (s1.2.2.1), (gMo_readTold v0), (gMo_readX v0), (gMo_readStrong v0), (s1.2.2.2), (gMo_parting v0), (gMo_wasShip v0), (gMo_wasLines v0), (gMo_worst v0), (gMo_logRow v0), (gMo_images v0), (gMo_isKept v0))) (fun (r9 : Int32 × (Nat → Int32) × Int64 × (Nat → Int32)) => (ih ((r9.1), (r9.2.1), (r9.2.2.1), (r9.2.2.2)))))))) else (some ((s1.1), (s1.2.1), (s1.2.2.1), (s1.2.2.2))))
noncomputable def fB_Mo_plan_60 (q2 : Int32 × (Nat → Int32) × Int64 × (Nat → Int32)) (ih : (Int32 × (Nat → Int32)) → Option (Int32 × (Nat → Int32))) (s11 : Int32 × (Nat → Int32)) : Option (Int32 × (Nat → Int32)) := (if 60 ≤ (s11.1) then (some ((s11.1), (s11.2))) else (if inb (s11.1) 60 = true then (if inb (s11.1) 60 = true then (ih (((s11.1) + 1), (upd (s11.2) (ix (s11.1)) ((q2.2.2.2) (ix (s11.1)))))) else none) else none))
noncomputable def f_Mo_plan (v0 : tMo)  : Option (Int32 × (Nat → Int32) × (Nat → Int32) × Int64 × (Nat → Int32)) := (Option.bind (lp (fB_Mo_plan_17 v0) LF (0, (upd (upd (upd (gMo_ints v0) 12 (-1)) 13 0) 24 0), (gMo_said v0), (gMo_readRow v0))) (fun (q2 : Int32 × (Nat → Int32) × Int64 × (Nat → Int32)) => (if (q2.1) ≤ 0 then (Option.bind (lp (fB_Mo_plan_60 q2) LF (0, (gMo_atRow v0))) (fun (q12 : Int32 × (Nat → Int32)) => (some (((q2.2.1) 24), (upd (upd (q2.2.1) 11 0) 4 ((q2.2.1) 24)), (q12.2), (q2.2.2.1), (q2.2.2.2))))) else (some (((-10) - (q2.1)), (upd (q2.2.1) 11 0), (gMo_atRow v0), (q2.2.2.1), (q2.2.2.2))))))
abbrev rm_Mo_plan : Room := { frames := 3, cells := 0, slots := 0, locals := 69 }
set_option maxHeartbeats 4000000 in
set_option maxRecDepth 100000 in
theorem c_Mo_plan (l : Launch) (g : zGl) (a0 : Nat → Nat) (o0 : Nat) (v0 : tMo)  (out : Int32 × (Nat → Int32) × (Nat → Int32) × Int64 × (Nat → Int32)) (hf : f_Mo_plan v0 = some out) : zMi l yX11_plan cX11_plan 3 rm_Mo_plan g [.ref (a0 o0)] (W_Mo g a0 o0 (gMo_ints v0) (gMo_told v0) (gMo_postX v0) (gMo_postStrong v0) (gMo_atRow v0) (gMo_heights v0) (gMo_ship v0) (gMo_lines v0) (gMo_text v0) (gMo_said v0) (gMo_readTold v0) (gMo_readX v0) (gMo_readStrong v0) (gMo_readRow v0) (gMo_parting v0) (gMo_wasShip v0) (gMo_wasLines v0) (gMo_worst v0) (gMo_logRow v0) (gMo_images v0) (gMo_isKept v0)) (out.1) (W_Mo g a0 o0 (out.2.1) (gMo_told v0) (gMo_postX v0) (gMo_postStrong v0) (out.2.2.1) (gMo_heights v0) (gMo_ship v0) (gMo_lines v0) (gMo_text v0) (out.2.2.2.1) (gMo_readTold v0) (gMo_readX v0) (gMo_readStrong v0) (out.2.2.2.2) (gMo_parting v0) (gMo_wasShip v0) (gMo_wasLines v0) (gMo_worst v0) (gMo_logRow v0) (gMo_images v0) (gMo_isKept v0)) := by
  refine zMi_of (lv := [(0, .ref (a0 o0))]) (by decide) (Nat.le_of_ble_eq_true rfl) rfl (fun x hl hg C hret => ?_)
  subst hl; subst hg
  rw [f_Mo_plan] at hf
  refine r_aload_n C eX11_plan_0 0 rfl rfl ?_
  refine r_iconst C (v := (-1)) eX11_plan_1 (by decide) ?_
  refine r_put (ws' := W_Mo (z_g x) a0 o0 (upd (gMo_ints v0) 12 (-1)) (gMo_told v0) (gMo_postX v0) (gMo_postStrong v0) (gMo_atRow v0) (gMo_heights v0) (gMo_ship v0) (gMo_lines v0) (gMo_text v0) (gMo_said v0) (gMo_readTold v0) (gMo_readX v0) (gMo_readStrong v0) (gMo_readRow v0) (gMo_parting v0) (gMo_wasShip v0) (gMo_wasLines v0) (gMo_worst v0) (gMo_logRow v0) (gMo_images v0) (gMo_isKept v0)) C eX11_plan_2 PX11_35 0 rfl rfl rfl (Nat.le_of_ble_eq_true rfl) rfl ?_
  refine r_aload_n C eX11_plan_5 0 rfl rfl ?_
  refine r_iconst C (v := 0) eX11_plan_6 (by decide) ?_
  refine r_put (ws' := W_Mo (z_g x) a0 o0 (upd (upd (gMo_ints v0) 12 (-1)) 13 0) (gMo_told v0) (gMo_postX v0) (gMo_postStrong v0) (gMo_atRow v0) (gMo_heights v0) (gMo_ship v0) (gMo_lines v0) (gMo_text v0) (gMo_said v0) (gMo_readTold v0) (gMo_readX v0) (gMo_readStrong v0) (gMo_readRow v0) (gMo_parting v0) (gMo_wasShip v0) (gMo_wasLines v0) (gMo_worst v0) (gMo_logRow v0) (gMo_images v0) (gMo_isKept v0)) C eX11_plan_7 PX11_97 0 rfl rfl rfl (Nat.le_of_ble_eq_true rfl) rfl ?_
  refine r_aload_n C eX11_plan_10 0 rfl rfl ?_
  refine r_iconst C (v := 0) eX11_plan_11 (by decide) ?_
  refine r_put (ws' := W_Mo (z_g x) a0 o0 (upd (upd (upd (gMo_ints v0) 12 (-1)) 13 0) 24 0) (gMo_told v0) (gMo_postX v0) (gMo_postStrong v0) (gMo_atRow v0) (gMo_heights v0) (gMo_ship v0) (gMo_lines v0) (gMo_text v0) (gMo_said v0) (gMo_readTold v0) (gMo_readX v0) (gMo_readStrong v0) (gMo_readRow v0) (gMo_parting v0) (gMo_wasShip v0) (gMo_wasLines v0) (gMo_worst v0) (gMo_logRow v0) (gMo_images v0) (gMo_isKept v0)) C eX11_plan_12 PX11_181 0 rfl rfl rfl (Nat.le_of_ble_eq_true rfl) rfl ?_
  refine r_iconst C (v := 0) eX11_plan_15 (by decide) ?_
  refine r_istore_n C [(1, .int 0), (0, .ref (a0 o0))] eX11_plan_16 rfl (by decide) rfl ?_
  obtain ⟨q2, h3, hf⟩ := zbind hf
  have J4 : vV x 3 0 0 (W_Mo (z_g x) a0 o0 (q2.2.1) (gMo_told v0) (gMo_postX v0) (gMo_postStrong v0) (gMo_atRow v0) (gMo_heights v0) (gMo_ship v0) (gMo_lines v0) (gMo_text v0) (q2.2.2.1) (gMo_readTold v0) (gMo_readX v0) (gMo_readStrong v0) (q2.2.2.2) (gMo_parting v0) (gMo_wasShip v0) (gMo_wasLines v0) (gMo_worst v0) (gMo_logRow v0) (gMo_images v0) (gMo_isKept v0)) 36 [(0, .ref (a0 o0)), (1, .int (q2.1))] [] := by
    refine r_aload_n C eX11_plan_36 0 rfl rfl ?_
    refine r_iconst C (v := 0) eX11_plan_37 (by decide) ?_
    refine r_put (ws' := W_Mo (z_g x) a0 o0 (upd (q2.2.1) 11 0) (gMo_told v0) (gMo_postX v0) (gMo_postStrong v0) (gMo_atRow v0) (gMo_heights v0) (gMo_ship v0) (gMo_lines v0) (gMo_text v0) (q2.2.2.1) (gMo_readTold v0) (gMo_readX v0) (gMo_readStrong v0) (q2.2.2.2) (gMo_parting v0) (gMo_wasShip v0) (gMo_wasLines v0) (gMo_worst v0) (gMo_logRow v0) (gMo_images v0) (gMo_isKept v0)) C eX11_plan_38 PX11_91 0 rfl rfl rfl (Nat.le_of_ble_eq_true rfl) rfl ?_
    refine r_iload_n C eX11_plan_41 1 rfl rfl ?_
    refine r_if_le C eX11_plan_42 (fun c10 => ?_) (fun c10 => ?_)
    · rw [if_pos c10] at hf
      refine r_aload_n C eX11_plan_50 0 rfl rfl ?_
      refine r_aload_n C eX11_plan_51 0 rfl rfl ?_
      refine r_get (v := .int ((q2.2.1) 24)) C eX11_plan_52 FX11_181 0 rfl rfl ?_
      refine r_put (ws' := W_Mo (z_g x) a0 o0 (upd (upd (q2.2.1) 11 0) 4 ((q2.2.1) 24)) (gMo_told v0) (gMo_postX v0) (gMo_postStrong v0) (gMo_atRow v0) (gMo_heights v0) (gMo_ship v0) (gMo_lines v0) (gMo_text v0) (q2.2.2.1) (gMo_readTold v0) (gMo_readX v0) (gMo_readStrong v0) (q2.2.2.2) (gMo_parting v0) (gMo_wasShip v0) (gMo_wasLines v0) (gMo_worst v0) (gMo_logRow v0) (gMo_images v0) (gMo_isKept v0)) C eX11_plan_55 PX11_187 0 rfl rfl rfl (Nat.le_of_ble_eq_true rfl) rfl ?_
      refine r_iconst C (v := 0) eX11_plan_58 (by decide) ?_
      refine r_istore_n C [(2, .int 0), (0, .ref (a0 o0)), (1, .int (q2.1))] eX11_plan_59 rfl (by decide) rfl ?_
      obtain ⟨q12, h13, hf⟩ := zbind hf
      have J14 : vV x 3 0 0 (W_Mo (z_g x) a0 o0 (upd (upd (q2.2.1) 11 0) 4 ((q2.2.1) 24)) (gMo_told v0) (gMo_postX v0) (gMo_postStrong v0) (q12.2) (gMo_heights v0) (gMo_ship v0) (gMo_lines v0) (gMo_text v0) (q2.2.2.1) (gMo_readTold v0) (gMo_readX v0) (gMo_readStrong v0) (q2.2.2.2) (gMo_parting v0) (gMo_wasShip v0) (gMo_wasLines v0) (gMo_worst v0) (gMo_logRow v0) (gMo_images v0) (gMo_isKept v0)) 84 [(0, .ref (a0 o0))] [] := by
        refine r_aload_n C eX11_plan_84 0 rfl rfl ?_
        refine r_get (v := .int ((q2.2.1) 24)) C eX11_plan_85 FX11_187 0 rfl rfl ?_
        obtain rfl := Option.some.inj (show some ((((q2.2.1) 24), (upd (upd (q2.2.1) 11 0) 4 ((q2.2.1) 24)), (q12.2), (q2.2.2.1), (q2.2.2.2)) : Int32 × (Nat → Int32) × (Nat → Int32) × Int64 × (Nat → Int32)) = some _ from hf)
        exact hret _ _ _ eX11_plan_88
      have L15 : ∀ (nL15 : Nat) (s11 : Int32 × (Nat → Int32)), lp (fB_Mo_plan_60 q2) nL15 s11 = some q12 → vV x 3 0 0 (W_Mo (z_g x) a0 o0 (upd (upd (q2.2.1) 11 0) 4 ((q2.2.1) 24)) (gMo_told v0) (gMo_postX v0) (gMo_postStrong v0) (s11.2) (gMo_heights v0) (gMo_ship v0) (gMo_lines v0) (gMo_text v0) (q2.2.2.1) (gMo_readTold v0) (gMo_readX v0) (gMo_readStrong v0) (q2.2.2.2) (gMo_parting v0) (gMo_wasShip v0) (gMo_wasLines v0) (gMo_worst v0) (gMo_logRow v0) (gMo_images v0) (gMo_isKept v0)) 60 [(0, .ref (a0 o0)), (2, .int (s11.1))] [] := by
        intro nL15
        induction nL15 with
        | zero => intro s11 hq; cases hq
        | succ nL15 ihL15 =>
          intro s11 hbL15
          rw [lp_succ, fB_Mo_plan_60] at hbL15
          refine r_iload_n C eX11_plan_60 1 rfl rfl ?_
          refine r_bipush C (v := 60) eX11_plan_61 (by decide) ?_
          refine r_icmp_ge C eX11_plan_63 (fun c16 => ?_) (fun c16 => ?_)
          · rw [if_pos c16] at hbL15
            obtain rfl := Option.some.inj hbL15
            refine r_sub (lv' := [(0, .ref (a0 o0))]) [0] rfl ?_
            exact J14
          · rw [if_neg c16] at hbL15
            refine r_aload_n C eX11_plan_66 0 rfl rfl ?_
            refine r_get (v := .ref (a0 (o0 + 4))) C eX11_plan_67 FX11_19 0 rfl rfl ?_
            refine r_iload_n C eX11_plan_70 1 rfl rfl ?_
            refine r_aload_n C eX11_plan_71 0 rfl rfl ?_
            refine r_get (v := .ref (a0 (o0 + 12))) C eX11_plan_72 FX11_48 0 rfl rfl ?_
            refine r_iload_n C eX11_plan_75 1 rfl rfl ?_
            obtain ⟨hb17, hbL15⟩ := zchk hbL15
            refine r_iald C eX11_plan_76 12 rfl (inb_in hb17) ((q2.2.2.2) (ix (s11.1))) rfl ?_
            obtain ⟨hb18, hbL15⟩ := zchk hbL15
            refine r_iast (ws' := W_Mo (z_g x) a0 o0 (upd (upd (q2.2.1) 11 0) 4 ((q2.2.1) 24)) (gMo_told v0) (gMo_postX v0) (gMo_postStrong v0) (upd (s11.2) (ix (s11.1)) ((q2.2.2.2) (ix (s11.1)))) (gMo_heights v0) (gMo_ship v0) (gMo_lines v0) (gMo_text v0) (q2.2.2.1) (gMo_readTold v0) (gMo_readX v0) (gMo_readStrong v0) (q2.2.2.2) (gMo_parting v0) (gMo_wasShip v0) (gMo_wasLines v0) (gMo_worst v0) (gMo_logRow v0) (gMo_images v0) (gMo_isKept v0)) C eX11_plan_77 4 rfl (inb_in hb18) rfl ?_
            refine r_iinc C (v := ((s11.1) + 1)) [(2, .int ((s11.1) + 1)), (0, .ref (a0 o0))] eX11_plan_78 1 rfl rfl (by decide) rfl ?_
            refine r_goto C eX11_plan_81 ?_
            refine r_sub (lv' := [(0, .ref (a0 o0)), (2, .int ((s11.1) + 1))]) [1, 0] rfl ?_
            have hc := ihL15 (((s11.1) + 1), (upd (s11.2) (ix (s11.1)) ((q2.2.2.2) (ix (s11.1))))) hbL15
            exact hc
      refine r_sub (lv' := [(0, .ref (a0 o0)), (2, .int 0)]) [1, 0] rfl ?_
      have hc := L15 LF (0, (gMo_atRow v0)) h13
      exact hc
    · rw [if_neg c10] at hf
      refine r_bipush C (v := (-10)) eX11_plan_45 (by decide) ?_
      refine r_iload_n C eX11_plan_47 1 rfl rfl ?_
      refine r_isub C eX11_plan_48 ?_
      obtain rfl := Option.some.inj (show some ((((-10) - (q2.1)), (upd (q2.2.1) 11 0), (gMo_atRow v0), (q2.2.2.1), (q2.2.2.2)) : Int32 × (Nat → Int32) × (Nat → Int32) × Int64 × (Nat → Int32)) = some _ from hf)
      exact hret _ _ _ eX11_plan_49
  have L5 : ∀ (nL5 : Nat) (s1 : Int32 × (Nat → Int32) × Int64 × (Nat → Int32)), lp (fB_Mo_plan_17 v0) nL5 s1 = some q2 → vV x 3 0 0 (W_Mo (z_g x) a0 o0 (s1.2.1) (gMo_told v0) (gMo_postX v0) (gMo_postStrong v0) (gMo_atRow v0) (gMo_heights v0) (gMo_ship v0) (gMo_lines v0) (gMo_text v0) (s1.2.2.1) (gMo_readTold v0) (gMo_readX v0) (gMo_readStrong v0) (s1.2.2.2) (gMo_parting v0) (gMo_wasShip v0) (gMo_wasLines v0) (gMo_worst v0) (gMo_logRow v0) (gMo_images v0) (gMo_isKept v0)) 17 [(0, .ref (a0 o0)), (1, .int (s1.1))] [] := by
    intro nL5
    induction nL5 with
    | zero => intro s1 hq; cases hq
    | succ nL5 ihL5 =>
      intro s1 hbL5
      rw [lp_succ, fB_Mo_plan_17] at hbL5
      refine r_iload_n C eX11_plan_17 1 rfl rfl ?_
      refine r_if_ne C eX11_plan_18 (fun c6 => ?_) (fun c6 => ?_)
      · rw [if_neg c6] at hbL5
        obtain rfl := Option.some.inj hbL5
        exact J4
      · rw [if_pos c6] at hbL5
        refine r_aload_n C eX11_plan_21 0 rfl rfl ?_
        obtain ⟨r7, hr7, hbL5⟩ := zbind hbL5
        refine r_V_i (ws' := W_Mo (z_g x) a0 o0 (r7.2) (gMo_told v0) (gMo_postX v0) (gMo_postStrong v0) (gMo_atRow v0) (gMo_heights v0) (gMo_ship v0) (gMo_lines v0) (gMo_text v0) (s1.2.2.1) (gMo_readTold v0) (gMo_readX v0) (gMo_readStrong v0) (s1.2.2.2) (gMo_parting v0) (gMo_wasShip v0) (gMo_wasLines v0) (gMo_worst v0) (gMo_logRow v0) (gMo_images v0) (gMo_isKept v0)) C (c_Mo_here (z_l x) (z_g x) a0 o0 ((s1.2.1), (gMo_told v0), (gMo_postX v0), (gMo_postStrong v0), (gMo_atRow v0), (gMo_heights v0), (gMo_ship v0), (gMo_lines v0), (gMo_text v0), (s1.2.2.1), (gMo_readTold v0), (gMo_readX v0), (gMo_readStrong v0), (s1.2.2.2), (gMo_parting v0), (gMo_wasShip v0), (gMo_wasLines v0), (gMo_worst v0), (gMo_logRow v0), (gMo_images v0), (gMo_isKept v0))  r7 hr7) eX11_plan_22 MX11_100 ⟨0, 11, _, _, rfl, rfl, rfl⟩ [0, 1, 2, 3, 4, 5, 6, 7, 8, 9, 10, 11, 12, 13, 14, 15, 16, 17, 18, 19] rfl rfl rfl rfl [] rfl trivial 20 rfl rfl rfl rfl rfl rfl ?_
        refine r_if_lt C eX11_plan_25 (fun c8 => ?_) (fun c8 => ?_)
        · rw [if_pos c8] at hbL5
          obtain rfl := Option.some.inj hbL5
          exact J4
        · rw [if_neg c8] at hbL5
          refine r_aload_n C eX11_plan_28 0 rfl rfl ?_
          obtain ⟨r9, hr9, hbL5⟩ := zbind hbL5
          refine r_V_i (ws' := W_Mo (z_g x) a0 o0 (r9.2.1) (gMo_told v0) (gMo_postX v0) (gMo_postStrong v0) (gMo_atRow v0) (gMo_heights v0) (gMo_ship v0) (gMo_lines v0) (gMo_text v0) (r9.2.2.1) (gMo_readTold v0) (gMo_readX v0) (gMo_readStrong v0) (r9.2.2.2) (gMo_parting v0) (gMo_wasShip v0) (gMo_wasLines v0) (gMo_worst v0) (gMo_logRow v0) (gMo_images v0) (gMo_isKept v0)) C (c_Mo_takeAt (z_l x) (z_g x) a0 o0 ((r7.2), (gMo_told v0), (gMo_postX v0), (gMo_postStrong v0), (gMo_atRow v0), (gMo_heights v0), (gMo_ship v0), (gMo_lines v0), (gMo_text v0), (s1.2.2.1), (gMo_readTold v0), (gMo_readX v0), (gMo_readStrong v0), (s1.2.2.2), (gMo_parting v0), (gMo_wasShip v0), (gMo_wasLines v0), (gMo_worst v0), (gMo_logRow v0), (gMo_images v0), (gMo_isKept v0))  r9 hr9) eX11_plan_29 MX11_184 ⟨0, 11, _, _, rfl, rfl, rfl⟩ [0, 1, 2, 3, 4, 5, 6, 7, 8, 9, 10, 11, 12, 13, 14, 15, 16, 17, 18, 19] rfl rfl rfl rfl [] rfl trivial 20 rfl rfl rfl rfl rfl rfl ?_
          refine r_istore_n C [(1, .int (r9.1)), (0, .ref (a0 o0))] eX11_plan_32 rfl (by decide) rfl ?_
          refine r_goto C eX11_plan_33 ?_
          refine r_sub (lv' := [(0, .ref (a0 o0)), (1, .int (r9.1))]) [1, 0] rfl ?_
          have hc := ihL5 ((r9.1), (r9.2.1), (r9.2.2.1), (r9.2.2.2)) hbL5
          exact hc
  refine r_sub (lv' := [(0, .ref (a0 o0)), (1, .int 0)]) [1, 0] rfl ?_
  have hc := L5 LF (0, (upd (upd (upd (gMo_ints v0) 12 (-1)) 13 0) 24 0), (gMo_said v0), (gMo_readRow v0)) h3
  exact hc
theorem eX11_post_0 : zd 1 cX11_post 0 1 (.aload_n 0) := ⟨by decide +kernel, rfl⟩
theorem eX11_post_1 : zd 1 cX11_post 1 2 (.iload_n 1) := ⟨by decide +kernel, rfl⟩
theorem eX11_post_2 : zd 3 cX11_post 2 5 (.invokevirtual 198) := ⟨by decide +kernel, rfl⟩
theorem eX11_post_5 : zdi cX11_post 5 8 11 (.ifCond .ne) := ⟨6, by decide +kernel, rfl, by decide⟩
theorem eX11_post_8 : zd 2 cX11_post 8 10 (.ldc 202) := ⟨by decide +kernel, rfl⟩
theorem eX11_post_10 : zd 1 cX11_post 10 11 (.ireturn) := ⟨by decide +kernel, rfl⟩
theorem eX11_post_11 : zd 1 cX11_post 11 12 (.iload_n 2) := ⟨by decide +kernel, rfl⟩
theorem eX11_post_12 : zdi cX11_post 12 15 24 (.ifCond .ne) := ⟨12, by decide +kernel, rfl, by decide⟩
theorem eX11_post_15 : zd 1 cX11_post 15 16 (.aload_n 0) := ⟨by decide +kernel, rfl⟩
theorem eX11_post_16 : zd 3 cX11_post 16 19 (.getfield 13) := ⟨by decide +kernel, rfl⟩
theorem eX11_post_19 : zd 1 cX11_post 19 20 (.iload_n 1) := ⟨by decide +kernel, rfl⟩
theorem eX11_post_20 : zd 1 cX11_post 20 21 (.iaload) := ⟨by decide +kernel, rfl⟩
theorem eX11_post_21 : zdi cX11_post 21 24 40 (.goto) := ⟨19, by decide +kernel, rfl, by decide⟩
theorem eX11_post_24 : zd 1 cX11_post 24 25 (.iload_n 2) := ⟨by decide +kernel, rfl⟩
theorem eX11_post_25 : zd 1 cX11_post 25 26 (.iconst 1) := ⟨by decide +kernel, rfl⟩
theorem eX11_post_26 : zdi cX11_post 26 29 38 (.if_icmp .ne) := ⟨12, by decide +kernel, rfl, by decide⟩
theorem eX11_post_29 : zd 1 cX11_post 29 30 (.aload_n 0) := ⟨by decide +kernel, rfl⟩
theorem eX11_post_30 : zd 3 cX11_post 30 33 (.getfield 16) := ⟨by decide +kernel, rfl⟩
theorem eX11_post_33 : zd 1 cX11_post 33 34 (.iload_n 1) := ⟨by decide +kernel, rfl⟩
theorem eX11_post_34 : zd 1 cX11_post 34 35 (.iaload) := ⟨by decide +kernel, rfl⟩
theorem eX11_post_35 : zdi cX11_post 35 38 40 (.goto) := ⟨5, by decide +kernel, rfl, by decide⟩
theorem eX11_post_38 : zd 2 cX11_post 38 40 (.ldc 90) := ⟨by decide +kernel, rfl⟩
theorem eX11_post_40 : zd 1 cX11_post 40 41 (.ireturn) := ⟨by decide +kernel, rfl⟩
noncomputable def f_Mo_post (v0 : tMo) (p1 : Int32) (p2 : Int32) : Option (Int32) := (if (f_Mo_isPost v0 p1) = 0 then (some (-1000000001)) else (if p2 = 0 then (if inb p1 12 = true then (some ((gMo_postX v0) (ix p1))) else none) else (if p2 = 1 then (if inb p1 12 = true then (some ((gMo_postStrong v0) (ix p1))) else none) else (some (-1000000002)))))
abbrev rm_Mo_post : Room := { frames := 2, cells := 0, slots := 0, locals := 46 }
set_option maxHeartbeats 4000000 in
set_option maxRecDepth 100000 in
theorem c_Mo_post (l : Launch) (g : zGl) (a0 : Nat → Nat) (o0 : Nat) (v0 : tMo) (p1 : Int32) (p2 : Int32) (out : Int32) (hf : f_Mo_post v0 p1 p2 = some out) : zMi l yX11_post cX11_post 3 rm_Mo_post g [.ref (a0 o0), .int p1, .int p2] (W_Mo g a0 o0 (gMo_ints v0) (gMo_told v0) (gMo_postX v0) (gMo_postStrong v0) (gMo_atRow v0) (gMo_heights v0) (gMo_ship v0) (gMo_lines v0) (gMo_text v0) (gMo_said v0) (gMo_readTold v0) (gMo_readX v0) (gMo_readStrong v0) (gMo_readRow v0) (gMo_parting v0) (gMo_wasShip v0) (gMo_wasLines v0) (gMo_worst v0) (gMo_logRow v0) (gMo_images v0) (gMo_isKept v0)) out (W_Mo g a0 o0 (gMo_ints v0) (gMo_told v0) (gMo_postX v0) (gMo_postStrong v0) (gMo_atRow v0) (gMo_heights v0) (gMo_ship v0) (gMo_lines v0) (gMo_text v0) (gMo_said v0) (gMo_readTold v0) (gMo_readX v0) (gMo_readStrong v0) (gMo_readRow v0) (gMo_parting v0) (gMo_wasShip v0) (gMo_wasLines v0) (gMo_worst v0) (gMo_logRow v0) (gMo_images v0) (gMo_isKept v0)) := by
  refine zMi_of (lv := [(0, .ref (a0 o0)), (1, .int p1), (2, .int p2)]) (by decide) (Nat.le_of_ble_eq_true rfl) rfl (fun x hl hg C hret => ?_)
  subst hl; subst hg
  rw [f_Mo_post] at hf
  refine r_aload_n C eX11_post_0 0 rfl rfl ?_
  refine r_iload_n C eX11_post_1 1 rfl rfl ?_
  refine r_V_z (ws' := W_Mo (z_g x) a0 o0 (gMo_ints v0) (gMo_told v0) (gMo_postX v0) (gMo_postStrong v0) (gMo_atRow v0) (gMo_heights v0) (gMo_ship v0) (gMo_lines v0) (gMo_text v0) (gMo_said v0) (gMo_readTold v0) (gMo_readX v0) (gMo_readStrong v0) (gMo_readRow v0) (gMo_parting v0) (gMo_wasShip v0) (gMo_wasLines v0) (gMo_worst v0) (gMo_logRow v0) (gMo_images v0) (gMo_isKept v0)) C (c_Mo_isPost (z_l x) (z_g x) a0 o0 v0 p1 _ rfl) eX11_post_2 MX11_198 ⟨0, 11, _, _, rfl, rfl, rfl⟩ [0, 1, 2, 3, 4, 5, 6, 7, 8, 9, 10, 11, 12, 13, 14, 15, 16, 17, 18, 19] rfl rfl rfl rfl [] rfl trivial 20 rfl rfl rfl rfl rfl rfl (fun zb1 => ?_)
  refine r_if_ne C eX11_post_5 (fun c2 => ?_) (fun c2 => ?_)
  · rw [if_neg c2] at hf
    refine r_iload_n C eX11_post_11 2 rfl rfl ?_
    refine r_if_ne C eX11_post_12 (fun c3 => ?_) (fun c3 => ?_)
    · rw [if_neg c3] at hf
      refine r_iload_n C eX11_post_24 2 rfl rfl ?_
      refine r_iconst C (v := 1) eX11_post_25 (by decide) ?_
      refine r_icmp_ne C eX11_post_26 (fun c5 => ?_) (fun c5 => ?_)
      · rw [if_neg c5] at hf
        refine r_ldc C (v := (-1000000002)) eX11_post_38 q1183 ?_
        obtain rfl := Option.some.inj (show some ((-1000000002) : Int32) = some _ from hf)
        exact hret _ _ _ eX11_post_40
      · rw [if_pos c5] at hf
        refine r_aload_n C eX11_post_29 0 rfl rfl ?_
        refine r_get (v := .ref (a0 (o0 + 3))) C eX11_post_30 FX11_16 0 rfl rfl ?_
        refine r_iload_n C eX11_post_33 1 rfl rfl ?_
        obtain ⟨hb6, hf⟩ := zchk hf
        refine r_iald C eX11_post_34 3 rfl (inb_in hb6) ((gMo_postStrong v0) (ix p1)) rfl ?_
        refine r_goto C eX11_post_35 ?_
        obtain rfl := Option.some.inj (show some (((gMo_postStrong v0) (ix p1)) : Int32) = some _ from hf)
        exact hret _ _ _ eX11_post_40
    · rw [if_pos c3] at hf
      refine r_aload_n C eX11_post_15 0 rfl rfl ?_
      refine r_get (v := .ref (a0 (o0 + 2))) C eX11_post_16 FX11_13 0 rfl rfl ?_
      refine r_iload_n C eX11_post_19 1 rfl rfl ?_
      obtain ⟨hb4, hf⟩ := zchk hf
      refine r_iald C eX11_post_20 2 rfl (inb_in hb4) ((gMo_postX v0) (ix p1)) rfl ?_
      refine r_goto C eX11_post_21 ?_
      obtain rfl := Option.some.inj (show some (((gMo_postX v0) (ix p1)) : Int32) = some _ from hf)
      exact hret _ _ _ eX11_post_40
  · rw [if_pos c2] at hf
    refine r_ldc C (v := (-1000000001)) eX11_post_8 q1276 ?_
    obtain rfl := Option.some.inj (show some ((-1000000001) : Int32) = some _ from hf)
    exact hret _ _ _ eX11_post_10
theorem eX11_put_0 : zd 1 cX11_put 0 1 (.iload_n 1) := ⟨by decide +kernel, rfl⟩
theorem eX11_put_1 : zd 1 cX11_put 1 2 (.i2l) := ⟨by decide +kernel, rfl⟩
theorem eX11_put_2 : zd 1 cX11_put 2 3 (.lconst 0) := ⟨by decide +kernel, rfl⟩
theorem eX11_put_3 : zd 3 cX11_put 3 6 (.ldc2_w 84) := ⟨by decide +kernel, rfl⟩
theorem eX11_put_6 : zd 3 cX11_put 6 9 (.invokestatic 86) := ⟨by decide +kernel, rfl⟩
theorem eX11_put_9 : zdi cX11_put 9 12 28 (.ifCond .eq) := ⟨19, by decide +kernel, rfl, by decide⟩
theorem eX11_put_12 : zd 1 cX11_put 12 13 (.iload_n 2) := ⟨by decide +kernel, rfl⟩
theorem eX11_put_13 : zd 1 cX11_put 13 14 (.i2l) := ⟨by decide +kernel, rfl⟩
theorem eX11_put_14 : zd 1 cX11_put 14 15 (.iload_n 1) := ⟨by decide +kernel, rfl⟩
theorem eX11_put_15 : zd 3 cX11_put 15 18 (.invokestatic 290) := ⟨by decide +kernel, rfl⟩
theorem eX11_put_18 : zd 1 cX11_put 18 19 (.iload_n 1) := ⟨by decide +kernel, rfl⟩
theorem eX11_put_19 : zd 3 cX11_put 19 22 (.invokestatic 293) := ⟨by decide +kernel, rfl⟩
theorem eX11_put_22 : zd 3 cX11_put 22 25 (.invokestatic 86) := ⟨by decide +kernel, rfl⟩
theorem eX11_put_25 : zdi cX11_put 25 28 31 (.ifCond .ne) := ⟨6, by decide +kernel, rfl, by decide⟩
theorem eX11_put_28 : zd 2 cX11_put 28 30 (.ldc 90) := ⟨by decide +kernel, rfl⟩
theorem eX11_put_30 : zd 1 cX11_put 30 31 (.ireturn) := ⟨by decide +kernel, rfl⟩
theorem eX11_put_31 : zd 1 cX11_put 31 32 (.aload_n 0) := ⟨by decide +kernel, rfl⟩
theorem eX11_put_32 : zd 3 cX11_put 32 35 (.getfield 25) := ⟨by decide +kernel, rfl⟩
theorem eX11_put_35 : zd 1 cX11_put 35 36 (.iload_n 1) := ⟨by decide +kernel, rfl⟩
theorem eX11_put_36 : zd 1 cX11_put 36 37 (.laload) := ⟨by decide +kernel, rfl⟩
theorem eX11_put_37 : zd 1 cX11_put 37 38 (.l2i) := ⟨by decide +kernel, rfl⟩
theorem eX11_put_38 : zd 1 cX11_put 38 39 (.istore_n 3) := ⟨by decide +kernel, rfl⟩
theorem eX11_put_39 : zd 1 cX11_put 39 40 (.aload_n 0) := ⟨by decide +kernel, rfl⟩
theorem eX11_put_40 : zd 3 cX11_put 40 43 (.getfield 25) := ⟨by decide +kernel, rfl⟩
theorem eX11_put_43 : zd 1 cX11_put 43 44 (.iload_n 1) := ⟨by decide +kernel, rfl⟩
theorem eX11_put_44 : zd 1 cX11_put 44 45 (.iload_n 2) := ⟨by decide +kernel, rfl⟩
theorem eX11_put_45 : zd 1 cX11_put 45 46 (.i2l) := ⟨by decide +kernel, rfl⟩
theorem eX11_put_46 : zd 1 cX11_put 46 47 (.lastore) := ⟨by decide +kernel, rfl⟩
theorem eX11_put_47 : zd 1 cX11_put 47 48 (.iload_n 3) := ⟨by decide +kernel, rfl⟩
theorem eX11_put_48 : zd 1 cX11_put 48 49 (.ireturn) := ⟨by decide +kernel, rfl⟩
theorem MX11_293 : zlS RX11 293 yX11_mostOf cX11_mostOf 1 ((Option.some FieldType.long)) 1 := ⟨q1288, q1289, q12, q1290, by decide, by decide, by decide +kernel⟩
noncomputable def f_Mo_put (v0 : tMo) (p1 : Int32) (p2 : Int32) : Option (Int32 × (Nat → Int64)) := (if (f_Mo_in p1.toInt64 0 8) = 0 then (some ((-1000000002), (gMo_ship v0))) else (if (f_Mo_in p2.toInt64 (f_Mo_leastOf p1) (f_Mo_mostOf p1)) = 0 then (some ((-1000000002), (gMo_ship v0))) else (if inb p1 13 = true then (zlet ((gMo_ship v0) (ix p1)).toInt32 (fun (z6 : Int32) => (zlet p2.toInt64 (fun (z7 : Int64) => (if inb p1 13 = true then (some (z6, (vp_updL (gMo_ship v0) (ix p1) z7))) else none))))) else none)))
abbrev rm_Mo_put : Room := { frames := 2, cells := 0, slots := 0, locals := 40 }
set_option maxHeartbeats 4000000 in
set_option maxRecDepth 100000 in
theorem c_Mo_put (l : Launch) (g : zGl) (a0 : Nat → Nat) (o0 : Nat) (v0 : tMo) (p1 : Int32) (p2 : Int32) (out : Int32 × (Nat → Int64)) (hf : f_Mo_put v0 p1 p2 = some out) : zMi l yX11_put cX11_put 4 rm_Mo_put g [.ref (a0 o0), .int p1, .int p2] (W_Mo g a0 o0 (gMo_ints v0) (gMo_told v0) (gMo_postX v0) (gMo_postStrong v0) (gMo_atRow v0) (gMo_heights v0) (gMo_ship v0) (gMo_lines v0) (gMo_text v0) (gMo_said v0) (gMo_readTold v0) (gMo_readX v0) (gMo_readStrong v0) (gMo_readRow v0) (gMo_parting v0) (gMo_wasShip v0) (gMo_wasLines v0) (gMo_worst v0) (gMo_logRow v0) (gMo_images v0) (gMo_isKept v0)) (out.1) (W_Mo g a0 o0 (gMo_ints v0) (gMo_told v0) (gMo_postX v0) (gMo_postStrong v0) (gMo_atRow v0) (gMo_heights v0) (out.2) (gMo_lines v0) (gMo_text v0) (gMo_said v0) (gMo_readTold v0) (gMo_readX v0) (gMo_readStrong v0) (gMo_readRow v0) (gMo_parting v0) (gMo_wasShip v0) (gMo_wasLines v0) (gMo_worst v0) (gMo_logRow v0) (gMo_images v0) (gMo_isKept v0)) := by
  refine zMi_of (lv := [(0, .ref (a0 o0)), (1, .int p1), (2, .int p2)]) (by decide) (Nat.le_of_ble_eq_true rfl) rfl (fun x hl hg C hret => ?_)
  subst hl; subst hg
  rw [f_Mo_put] at hf
  refine r_iload_n C eX11_put_0 1 rfl rfl ?_
  refine r_i2l C eX11_put_1 ?_
  refine r_lconst C (v := 0) eX11_put_2 (by decide) ?_
  refine r_ldc2 C (v := 8) eX11_put_3 q1179 ?_
  refine r_S_z (ws' := W_Mo (z_g x) a0 o0 (gMo_ints v0) (gMo_told v0) (gMo_postX v0) (gMo_postStrong v0) (gMo_atRow v0) (gMo_heights v0) (gMo_ship v0) (gMo_lines v0) (gMo_text v0) (gMo_said v0) (gMo_readTold v0) (gMo_readX v0) (gMo_readStrong v0) (gMo_readRow v0) (gMo_parting v0) (gMo_wasShip v0) (gMo_wasLines v0) (gMo_worst v0) (gMo_logRow v0) (gMo_images v0) (gMo_isKept v0)) C (c_Mo_in (z_l x) (z_g x)  p1.toInt64 0 8 _ rfl) eX11_put_6 MX11_86 [] rfl rfl rfl rfl [0, 1, 2, 3, 4, 5, 6, 7, 8, 9, 10, 11, 12, 13, 14, 15, 16, 17, 18, 19] rfl ⟨rfl, rfl, rfl, rfl, rfl, rfl, rfl, rfl, rfl, rfl, rfl, rfl, rfl, rfl, rfl, rfl, rfl, rfl, rfl, rfl, trivial⟩ 20 rfl rfl rfl rfl rfl rfl (fun zb1 => ?_)
  refine r_if_eq C eX11_put_9 (fun c2 => ?_) (fun c2 => ?_)
  · rw [if_pos c2] at hf
    refine r_ldc C (v := (-1000000002)) eX11_put_28 q1183 ?_
    obtain rfl := Option.some.inj (show some (((-1000000002), (gMo_ship v0)) : Int32 × (Nat → Int64)) = some _ from hf)
    exact hret _ _ _ eX11_put_30
  · rw [if_neg c2] at hf
    refine r_iload_n C eX11_put_12 2 rfl rfl ?_
    refine r_i2l C eX11_put_13 ?_
    refine r_iload_n C eX11_put_14 1 rfl rfl ?_
    refine r_S_l (ws' := W_Mo (z_g x) a0 o0 (gMo_ints v0) (gMo_told v0) (gMo_postX v0) (gMo_postStrong v0) (gMo_atRow v0) (gMo_heights v0) (gMo_ship v0) (gMo_lines v0) (gMo_text v0) (gMo_said v0) (gMo_readTold v0) (gMo_readX v0) (gMo_readStrong v0) (gMo_readRow v0) (gMo_parting v0) (gMo_wasShip v0) (gMo_wasLines v0) (gMo_worst v0) (gMo_logRow v0) (gMo_images v0) (gMo_isKept v0)) C (c_Mo_leastOf (z_l x) (z_g x)  p1 _ rfl) eX11_put_15 MX11_290 [] rfl rfl rfl rfl [0, 1, 2, 3, 4, 5, 6, 7, 8, 9, 10, 11, 12, 13, 14, 15, 16, 17, 18, 19] rfl ⟨rfl, rfl, rfl, rfl, rfl, rfl, rfl, rfl, rfl, rfl, rfl, rfl, rfl, rfl, rfl, rfl, rfl, rfl, rfl, rfl, trivial⟩ 20 rfl rfl rfl rfl rfl rfl ?_
    refine r_iload_n C eX11_put_18 1 rfl rfl ?_
    refine r_S_l (ws' := W_Mo (z_g x) a0 o0 (gMo_ints v0) (gMo_told v0) (gMo_postX v0) (gMo_postStrong v0) (gMo_atRow v0) (gMo_heights v0) (gMo_ship v0) (gMo_lines v0) (gMo_text v0) (gMo_said v0) (gMo_readTold v0) (gMo_readX v0) (gMo_readStrong v0) (gMo_readRow v0) (gMo_parting v0) (gMo_wasShip v0) (gMo_wasLines v0) (gMo_worst v0) (gMo_logRow v0) (gMo_images v0) (gMo_isKept v0)) C (c_Mo_mostOf (z_l x) (z_g x)  p1 _ rfl) eX11_put_19 MX11_293 [] rfl rfl rfl rfl [0, 1, 2, 3, 4, 5, 6, 7, 8, 9, 10, 11, 12, 13, 14, 15, 16, 17, 18, 19] rfl ⟨rfl, rfl, rfl, rfl, rfl, rfl, rfl, rfl, rfl, rfl, rfl, rfl, rfl, rfl, rfl, rfl, rfl, rfl, rfl, rfl, trivial⟩ 20 rfl rfl rfl rfl rfl rfl ?_
    refine r_S_z (ws' := W_Mo (z_g x) a0 o0 (gMo_ints v0) (gMo_told v0) (gMo_postX v0) (gMo_postStrong v0) (gMo_atRow v0) (gMo_heights v0) (gMo_ship v0) (gMo_lines v0) (gMo_text v0) (gMo_said v0) (gMo_readTold v0) (gMo_readX v0) (gMo_readStrong v0) (gMo_readRow v0) (gMo_parting v0) (gMo_wasShip v0) (gMo_wasLines v0) (gMo_worst v0) (gMo_logRow v0) (gMo_images v0) (gMo_isKept v0)) C (c_Mo_in (z_l x) (z_g x)  p2.toInt64 (f_Mo_leastOf p1) (f_Mo_mostOf p1) _ rfl) eX11_put_22 MX11_86 [] rfl rfl rfl rfl [0, 1, 2, 3, 4, 5, 6, 7, 8, 9, 10, 11, 12, 13, 14, 15, 16, 17, 18, 19] rfl ⟨rfl, rfl, rfl, rfl, rfl, rfl, rfl, rfl, rfl, rfl, rfl, rfl, rfl, rfl, rfl, rfl, rfl, rfl, rfl, rfl, trivial⟩ 20 rfl rfl rfl rfl rfl rfl (fun zb3 => ?_)
    refine r_if_ne C eX11_put_25 (fun c4 => ?_) (fun c4 => ?_)
    · rw [if_neg c4] at hf
      refine r_aload_n C eX11_put_31 0 rfl rfl ?_
      refine r_get (v := .ref (a0 (o0 + 6))) C eX11_put_32 FX11_25 0 rfl rfl ?_
      refine r_iload_n C eX11_put_35 1 rfl rfl ?_
      obtain ⟨hb5, hf⟩ := zchk hf
      refine r_lald C eX11_put_36 6 rfl (inb_in hb5) ((gMo_ship v0) (ix p1)) rfl ?_
      refine r_l2i C eX11_put_37 ?_
      obtain ⟨z6, hz6, hf⟩ := zlet_of hf
      refine r_nami hz6 ?_
      refine r_istore_n C [(3, .int z6), (0, .ref (a0 o0)), (1, .int p1), (2, .int p2)] eX11_put_38 rfl (by decide) rfl ?_
      refine r_aload_n C eX11_put_39 1 rfl rfl ?_
      refine r_get (v := .ref (a0 (o0 + 6))) C eX11_put_40 FX11_25 0 rfl rfl ?_
      refine r_iload_n C eX11_put_43 2 rfl rfl ?_
      refine r_iload_n C eX11_put_44 3 rfl rfl ?_
      refine r_i2l C eX11_put_45 ?_
      obtain ⟨z7, hz7, hf⟩ := zlet_of hf
      refine r_naml hz7 ?_
      obtain ⟨hb8, hf⟩ := zchk hf
      refine r_last (ws' := W_Mo (z_g x) a0 o0 (gMo_ints v0) (gMo_told v0) (gMo_postX v0) (gMo_postStrong v0) (gMo_atRow v0) (gMo_heights v0) (vp_updL (gMo_ship v0) (ix p1) z7) (gMo_lines v0) (gMo_text v0) (gMo_said v0) (gMo_readTold v0) (gMo_readX v0) (gMo_readStrong v0) (gMo_readRow v0) (gMo_parting v0) (gMo_wasShip v0) (gMo_wasLines v0) (gMo_worst v0) (gMo_logRow v0) (gMo_images v0) (gMo_isKept v0)) C eX11_put_46 6 rfl (inb_in hb8) rfl ?_
      refine r_iload_n C eX11_put_47 0 rfl rfl ?_
      obtain rfl := Option.some.inj (show some ((z6, (vp_updL (gMo_ship v0) (ix p1) z7)) : Int32 × (Nat → Int64)) = some _ from hf)
      exact hret _ _ _ eX11_put_48
    · rw [if_pos c4] at hf
      refine r_ldc C (v := (-1000000002)) eX11_put_28 q1183 ?_
      obtain rfl := Option.some.inj (show some (((-1000000002), (gMo_ship v0)) : Int32 × (Nat → Int64)) = some _ from hf)
      exact hret _ _ _ eX11_put_30
theorem eX11_untold_0 : zd 1 cX11_untold 0 1 (.iload_n 0) := ⟨by decide +kernel, rfl⟩
theorem eX11_untold_1 : decode cX11_untold 1 = .ok (.tableswitch 85 0 10 #[59, 61, 65, 69, 72, 75, 78, 81, 85, 85, 83], 59) := by decide +kernel
theorem eX11_untold_60 : zd 1 cX11_untold 60 61 (.iconst 0) := ⟨by decide +kernel, rfl⟩
theorem eX11_untold_61 : zd 1 cX11_untold 61 62 (.ireturn) := ⟨by decide +kernel, rfl⟩
theorem eX11_untold_62 : zd 3 cX11_untold 62 65 (.sipush 9000) := ⟨by decide +kernel, rfl⟩
theorem eX11_untold_65 : zd 1 cX11_untold 65 66 (.ireturn) := ⟨by decide +kernel, rfl⟩
theorem eX11_untold_66 : zd 3 cX11_untold 66 69 (.sipush 5000) := ⟨by decide +kernel, rfl⟩
theorem eX11_untold_69 : zd 1 cX11_untold 69 70 (.ireturn) := ⟨by decide +kernel, rfl⟩
theorem eX11_untold_70 : zd 2 cX11_untold 70 72 (.bipush 30) := ⟨by decide +kernel, rfl⟩
theorem eX11_untold_72 : zd 1 cX11_untold 72 73 (.ireturn) := ⟨by decide +kernel, rfl⟩
theorem eX11_untold_73 : zd 2 cX11_untold 73 75 (.bipush 8) := ⟨by decide +kernel, rfl⟩
theorem eX11_untold_75 : zd 1 cX11_untold 75 76 (.ireturn) := ⟨by decide +kernel, rfl⟩
theorem eX11_untold_76 : zd 2 cX11_untold 76 78 (.bipush 10) := ⟨by decide +kernel, rfl⟩
theorem eX11_untold_78 : zd 1 cX11_untold 78 79 (.ireturn) := ⟨by decide +kernel, rfl⟩
theorem eX11_untold_79 : zd 2 cX11_untold 79 81 (.bipush 20) := ⟨by decide +kernel, rfl⟩
theorem eX11_untold_81 : zd 1 cX11_untold 81 82 (.ireturn) := ⟨by decide +kernel, rfl⟩
theorem eX11_untold_82 : zd 1 cX11_untold 82 83 (.iconst 2) := ⟨by decide +kernel, rfl⟩
theorem eX11_untold_83 : zd 1 cX11_untold 83 84 (.ireturn) := ⟨by decide +kernel, rfl⟩
theorem eX11_untold_84 : zd 1 cX11_untold 84 85 (.iconst 2) := ⟨by decide +kernel, rfl⟩
theorem eX11_untold_85 : zd 1 cX11_untold 85 86 (.ireturn) := ⟨by decide +kernel, rfl⟩
theorem eX11_untold_86 : zd 2 cX11_untold 86 88 (.bipush 10) := ⟨by decide +kernel, rfl⟩
theorem eX11_untold_88 : zd 1 cX11_untold 88 89 (.ireturn) := ⟨by decide +kernel, rfl⟩
noncomputable def f_Mo_untold  (p1 : Int32) : Int32 := (if p1 = 0 then 0 else (if p1 = 1 then 9000 else (if p1 = 2 then 5000 else (if p1 = 3 then 30 else (if p1 = 4 then 8 else (if p1 = 5 then 10 else (if p1 = 6 then 20 else (if p1 = 7 then 2 else (if p1 = 8 then 10 else (if p1 = 9 then 10 else (if p1 = 10 then 2 else 10)))))))))))
abbrev rm_Mo_untold : Room := { frames := 0, cells := 0, slots := 0, locals := 0 }
set_option maxHeartbeats 4000000 in
set_option maxRecDepth 100000 in
theorem c_Mo_untold (l : Launch) (g : zGl)  (p1 : Int32) (out : Int32) (hf : f_Mo_untold p1 = out) : zMi l yX11_untold cX11_untold 1 rm_Mo_untold g [.int p1] ([]) out ([]) := by
  refine zMi_of (lv := [(0, .int p1)]) (by decide) (Nat.le_of_ble_eq_true rfl) rfl (fun x hl hg C hret => ?_)
  subst hl; subst hg
  rw [f_Mo_untold] at hf
  refine r_iload_n C eX11_untold_0 0 rfl rfl ?_
  by_cases c1 : p1 = 0
  · rw [if_pos c1] at hf
    refine r_tabIn C (v := 0) eX11_untold_1 c1 59 60 ⟨by decide, rfl, by decide⟩ ?_
    refine r_iconst C (v := 0) eX11_untold_60 (by decide) ?_
    subst hf
    exact hret _ _ _ eX11_untold_61
  rw [if_neg c1] at hf
  by_cases c2 : p1 = 1
  · rw [if_pos c2] at hf
    refine r_tabIn C (v := 1) eX11_untold_1 c2 61 62 ⟨by decide, rfl, by decide⟩ ?_
    refine r_sipush C (v := 9000) eX11_untold_62 (by decide) ?_
    subst hf
    exact hret _ _ _ eX11_untold_65
  rw [if_neg c2] at hf
  by_cases c3 : p1 = 2
  · rw [if_pos c3] at hf
    refine r_tabIn C (v := 2) eX11_untold_1 c3 65 66 ⟨by decide, rfl, by decide⟩ ?_
    refine r_sipush C (v := 5000) eX11_untold_66 (by decide) ?_
    subst hf
    exact hret _ _ _ eX11_untold_69
  rw [if_neg c3] at hf
  by_cases c4 : p1 = 3
  · rw [if_pos c4] at hf
    refine r_tabIn C (v := 3) eX11_untold_1 c4 69 70 ⟨by decide, rfl, by decide⟩ ?_
    refine r_bipush C (v := 30) eX11_untold_70 (by decide) ?_
    subst hf
    exact hret _ _ _ eX11_untold_72
  rw [if_neg c4] at hf
  by_cases c5 : p1 = 4
  · rw [if_pos c5] at hf
    refine r_tabIn C (v := 4) eX11_untold_1 c5 72 73 ⟨by decide, rfl, by decide⟩ ?_
    refine r_bipush C (v := 8) eX11_untold_73 (by decide) ?_
    subst hf
    exact hret _ _ _ eX11_untold_75
  rw [if_neg c5] at hf
  by_cases c6 : p1 = 5
  · rw [if_pos c6] at hf
    refine r_tabIn C (v := 5) eX11_untold_1 c6 75 76 ⟨by decide, rfl, by decide⟩ ?_
    refine r_bipush C (v := 10) eX11_untold_76 (by decide) ?_
    subst hf
    exact hret _ _ _ eX11_untold_78
  rw [if_neg c6] at hf
  by_cases c7 : p1 = 6
  · rw [if_pos c7] at hf
    refine r_tabIn C (v := 6) eX11_untold_1 c7 78 79 ⟨by decide, rfl, by decide⟩ ?_
    refine r_bipush C (v := 20) eX11_untold_79 (by decide) ?_
    subst hf
    exact hret _ _ _ eX11_untold_81
  rw [if_neg c7] at hf
  by_cases c8 : p1 = 7
  · rw [if_pos c8] at hf
    refine r_tabIn C (v := 7) eX11_untold_1 c8 81 82 ⟨by decide, rfl, by decide⟩ ?_
    refine r_iconst C (v := 2) eX11_untold_82 (by decide) ?_
    subst hf
    exact hret _ _ _ eX11_untold_83
  rw [if_neg c8] at hf
  by_cases c9 : p1 = 8
  · rw [if_pos c9] at hf
    refine r_tabIn C (v := 8) eX11_untold_1 c9 85 86 ⟨by decide, rfl, by decide⟩ ?_
    refine r_bipush C (v := 10) eX11_untold_86 (by decide) ?_
    subst hf
    exact hret _ _ _ eX11_untold_88
  rw [if_neg c9] at hf
  by_cases c10 : p1 = 9
  · rw [if_pos c10] at hf
    refine r_tabIn C (v := 9) eX11_untold_1 c10 85 86 ⟨by decide, rfl, by decide⟩ ?_
    refine r_bipush C (v := 10) eX11_untold_86 (by decide) ?_
    subst hf
    exact hret _ _ _ eX11_untold_88
  rw [if_neg c10] at hf
  by_cases c11 : p1 = 10
  · rw [if_pos c11] at hf
    refine r_tabIn C (v := 10) eX11_untold_1 c11 83 84 ⟨by decide, rfl, by decide⟩ ?_
    refine r_iconst C (v := 2) eX11_untold_84 (by decide) ?_
    subst hf
    exact hret _ _ _ eX11_untold_85
  rw [if_neg c11] at hf
  refine r_tabOut C eX11_untold_1 (fun i h1 h2 => by rcases (show i = 0 ∨ i = 1 ∨ i = 2 ∨ i = 3 ∨ i = 4 ∨ i = 5 ∨ i = 6 ∨ i = 7 ∨ i = 8 ∨ i = 9 ∨ i = 10 by omega) with rfl | rfl | rfl | rfl | rfl | rfl | rfl | rfl | rfl | rfl | rfl <;> assumption) 86 (by decide) ?_
  refine r_bipush C (v := 10) eX11_untold_86 (by decide) ?_
  subst hf
  exact hret _ _ _ eX11_untold_88
theorem eX11_take_0 : zd 1 cX11_take 0 1 (.aload_n 0) := ⟨by decide +kernel, rfl⟩
theorem eX11_take_1 : zd 1 cX11_take 1 2 (.iload_n 2) := ⟨by decide +kernel, rfl⟩
theorem eX11_take_2 : zd 1 cX11_take 2 3 (.iload_n 3) := ⟨by decide +kernel, rfl⟩
theorem eX11_take_3 : zd 3 cX11_take 3 6 (.invokevirtual 138) := ⟨by decide +kernel, rfl⟩
theorem eX11_take_6 : zd 2 cX11_take 6 8 (.istore 4) := ⟨by decide +kernel, rfl⟩
theorem eX11_take_8 : zd 1 cX11_take 8 9 (.aload_n 0) := ⟨by decide +kernel, rfl⟩
theorem eX11_take_9 : zd 3 cX11_take 9 12 (.getfield 39) := ⟨by decide +kernel, rfl⟩
theorem eX11_take_12 : zd 1 cX11_take 12 13 (.iload_n 1) := ⟨by decide +kernel, rfl⟩
theorem eX11_take_13 : zd 1 cX11_take 13 14 (.aload_n 0) := ⟨by decide +kernel, rfl⟩
theorem eX11_take_14 : zd 3 cX11_take 14 17 (.getfield 134) := ⟨by decide +kernel, rfl⟩
theorem eX11_take_17 : zd 1 cX11_take 17 18 (.iastore) := ⟨by decide +kernel, rfl⟩
theorem eX11_take_18 : zd 2 cX11_take 18 20 (.iload 4) := ⟨by decide +kernel, rfl⟩
theorem eX11_take_20 : zd 1 cX11_take 20 21 (.ireturn) := ⟨by decide +kernel, rfl⟩
theorem FX11_39 : zlF RX11 39 11 18 := ⟨(RX11, TX11, 34), rfl, by decide, q1089, zin11⟩
noncomputable def f_Mo_take (v0 : tMo) (p1 : Int32) (p2 : Int32) (p3 : Int32) : Option (Int32 × (Nat → Int32) × (Nat → Int32)) := (Option.bind (f_Mo_takeNumber v0 p2 p3) (fun (r1 : Int32 × (Nat → Int32)) => (if inb p1 13 = true then (some ((r1.1), (r1.2), (upd (gMo_readTold v0) (ix p1) ((r1.2) 16)))) else none)))
abbrev rm_Mo_take : Room := { frames := 2, cells := 0, slots := 0, locals := 48 }
set_option maxHeartbeats 4000000 in
set_option maxRecDepth 100000 in
theorem c_Mo_take (l : Launch) (g : zGl) (a0 : Nat → Nat) (o0 : Nat) (v0 : tMo) (p1 : Int32) (p2 : Int32) (p3 : Int32) (out : Int32 × (Nat → Int32) × (Nat → Int32)) (hf : f_Mo_take v0 p1 p2 p3 = some out) : zMi l yX11_take cX11_take 5 rm_Mo_take g [.ref (a0 o0), .int p1, .int p2, .int p3] (W_Mo g a0 o0 (gMo_ints v0) (gMo_told v0) (gMo_postX v0) (gMo_postStrong v0) (gMo_atRow v0) (gMo_heights v0) (gMo_ship v0) (gMo_lines v0) (gMo_text v0) (gMo_said v0) (gMo_readTold v0) (gMo_readX v0) (gMo_readStrong v0) (gMo_readRow v0) (gMo_parting v0) (gMo_wasShip v0) (gMo_wasLines v0) (gMo_worst v0) (gMo_logRow v0) (gMo_images v0) (gMo_isKept v0)) (out.1) (W_Mo g a0 o0 (out.2.1) (gMo_told v0) (gMo_postX v0) (gMo_postStrong v0) (gMo_atRow v0) (gMo_heights v0) (gMo_ship v0) (gMo_lines v0) (gMo_text v0) (gMo_said v0) (out.2.2) (gMo_readX v0) (gMo_readStrong v0) (gMo_readRow v0) (gMo_parting v0) (gMo_wasShip v0) (gMo_wasLines v0) (gMo_worst v0) (gMo_logRow v0) (gMo_images v0) (gMo_isKept v0)) := by
  refine zMi_of (lv := [(0, .ref (a0 o0)), (1, .int p1), (2, .int p2), (3, .int p3)]) (by decide) (Nat.le_of_ble_eq_true rfl) rfl (fun x hl hg C hret => ?_)
  subst hl; subst hg
  rw [f_Mo_take] at hf
  refine r_aload_n C eX11_take_0 0 rfl rfl ?_
  refine r_iload_n C eX11_take_1 2 rfl rfl ?_
  refine r_iload_n C eX11_take_2 3 rfl rfl ?_
  obtain ⟨r1, hr1, hf⟩ := zbind hf
  refine r_V_i (ws' := W_Mo (z_g x) a0 o0 (r1.2) (gMo_told v0) (gMo_postX v0) (gMo_postStrong v0) (gMo_atRow v0) (gMo_heights v0) (gMo_ship v0) (gMo_lines v0) (gMo_text v0) (gMo_said v0) (gMo_readTold v0) (gMo_readX v0) (gMo_readStrong v0) (gMo_readRow v0) (gMo_parting v0) (gMo_wasShip v0) (gMo_wasLines v0) (gMo_worst v0) (gMo_logRow v0) (gMo_images v0) (gMo_isKept v0)) C (c_Mo_takeNumber (z_l x) (z_g x) a0 o0 v0 p2 p3 r1 hr1) eX11_take_3 MX11_138 ⟨0, 11, _, _, rfl, rfl, rfl⟩ [0, 1, 2, 3, 4, 5, 6, 7, 8, 9, 10, 11, 12, 13, 14, 15, 16, 17, 18, 19] rfl rfl rfl rfl [] rfl trivial 20 rfl rfl rfl rfl rfl rfl ?_
  refine r_istore C [(4, .int (r1.1)), (0, .ref (a0 o0)), (1, .int p1), (2, .int p2), (3, .int p3)] eX11_take_6 (by decide) rfl ?_
  refine r_aload_n C eX11_take_8 1 rfl rfl ?_
  refine r_get (v := .ref (a0 (o0 + 9))) C eX11_take_9 FX11_39 0 rfl rfl ?_
  refine r_iload_n C eX11_take_12 2 rfl rfl ?_
  refine r_aload_n C eX11_take_13 1 rfl rfl ?_
  refine r_get (v := .int ((r1.2) 16)) C eX11_take_14 FX11_134 0 rfl rfl ?_
  obtain ⟨hb2, hf⟩ := zchk hf
  refine r_iast (ws' := W_Mo (z_g x) a0 o0 (r1.2) (gMo_told v0) (gMo_postX v0) (gMo_postStrong v0) (gMo_atRow v0) (gMo_heights v0) (gMo_ship v0) (gMo_lines v0) (gMo_text v0) (gMo_said v0) (upd (gMo_readTold v0) (ix p1) ((r1.2) 16)) (gMo_readX v0) (gMo_readStrong v0) (gMo_readRow v0) (gMo_parting v0) (gMo_wasShip v0) (gMo_wasLines v0) (gMo_worst v0) (gMo_logRow v0) (gMo_images v0) (gMo_isKept v0)) C eX11_take_17 9 rfl (inb_in hb2) rfl ?_
  refine r_iload C eX11_take_18 0 rfl ?_
  obtain rfl := Option.some.inj (show some (((r1.1), (r1.2), (upd (gMo_readTold v0) (ix p1) ((r1.2) 16))) : Int32 × (Nat → Int32) × (Nat → Int32)) = some _ from hf)
  exact hret _ _ _ eX11_take_20
theorem eX11_takePost_0 : zd 1 cX11_takePost 0 1 (.aload_n 0) := ⟨by decide +kernel, rfl⟩
theorem eX11_takePost_1 : zd 1 cX11_takePost 1 2 (.iconst 0) := ⟨by decide +kernel, rfl⟩
theorem eX11_takePost_2 : zd 3 cX11_takePost 2 5 (.sipush 9999) := ⟨by decide +kernel, rfl⟩
theorem eX11_takePost_5 : zd 3 cX11_takePost 5 8 (.invokevirtual 138) := ⟨by decide +kernel, rfl⟩
theorem eX11_takePost_8 : zd 1 cX11_takePost 8 9 (.istore_n 1) := ⟨by decide +kernel, rfl⟩
theorem eX11_takePost_9 : zd 1 cX11_takePost 9 10 (.iconst 0) := ⟨by decide +kernel, rfl⟩
theorem eX11_takePost_10 : zd 1 cX11_takePost 10 11 (.istore_n 2) := ⟨by decide +kernel, rfl⟩
theorem eX11_takePost_11 : zd 1 cX11_takePost 11 12 (.iload_n 2) := ⟨by decide +kernel, rfl⟩
theorem eX11_takePost_12 : zd 1 cX11_takePost 12 13 (.aload_n 0) := ⟨by decide +kernel, rfl⟩
theorem eX11_takePost_13 : zd 3 cX11_takePost 13 16 (.getfield 141) := ⟨by decide +kernel, rfl⟩
theorem eX11_takePost_16 : zdi cX11_takePost 16 19 56 (.if_icmp .ge) := ⟨40, by decide +kernel, rfl, by decide⟩
theorem eX11_takePost_19 : zd 1 cX11_takePost 19 20 (.iload_n 1) := ⟨by decide +kernel, rfl⟩
theorem eX11_takePost_20 : zdi cX11_takePost 20 23 56 (.ifCond .ne) := ⟨36, by decide +kernel, rfl, by decide⟩
theorem eX11_takePost_23 : zd 1 cX11_takePost 23 24 (.aload_n 0) := ⟨by decide +kernel, rfl⟩
theorem eX11_takePost_24 : zd 3 cX11_takePost 24 27 (.getfield 42) := ⟨by decide +kernel, rfl⟩
theorem eX11_takePost_27 : zd 1 cX11_takePost 27 28 (.iload_n 2) := ⟨by decide +kernel, rfl⟩
theorem eX11_takePost_28 : zd 1 cX11_takePost 28 29 (.iaload) := ⟨by decide +kernel, rfl⟩
theorem eX11_takePost_29 : zd 1 cX11_takePost 29 30 (.aload_n 0) := ⟨by decide +kernel, rfl⟩
theorem eX11_takePost_30 : zd 3 cX11_takePost 30 33 (.getfield 134) := ⟨by decide +kernel, rfl⟩
theorem eX11_takePost_33 : zdi cX11_takePost 33 36 48 (.if_icmp .ne) := ⟨15, by decide +kernel, rfl, by decide⟩
theorem eX11_takePost_36 : zd 1 cX11_takePost 36 37 (.aload_n 0) := ⟨by decide +kernel, rfl⟩
theorem eX11_takePost_37 : zd 1 cX11_takePost 37 38 (.iconst 4) := ⟨by decide +kernel, rfl⟩
theorem eX11_takePost_38 : zd 1 cX11_takePost 38 39 (.aload_n 0) := ⟨by decide +kernel, rfl⟩
theorem eX11_takePost_39 : zd 3 cX11_takePost 39 42 (.getfield 131) := ⟨by decide +kernel, rfl⟩
theorem eX11_takePost_42 : zd 3 cX11_takePost 42 45 (.invokevirtual 127) := ⟨by decide +kernel, rfl⟩
theorem eX11_takePost_45 : zdi cX11_takePost 45 48 49 (.goto) := ⟨4, by decide +kernel, rfl, by decide⟩
theorem eX11_takePost_48 : zd 1 cX11_takePost 48 49 (.iconst 0) := ⟨by decide +kernel, rfl⟩
theorem eX11_takePost_49 : zd 1 cX11_takePost 49 50 (.istore_n 1) := ⟨by decide +kernel, rfl⟩
theorem eX11_takePost_50 : zd 3 cX11_takePost 50 53 (.iinc 2 1) := ⟨by decide +kernel, rfl⟩
theorem eX11_takePost_53 : zdi cX11_takePost 53 56 11 (.goto) := ⟨(-42), by decide +kernel, rfl, by decide⟩
theorem eX11_takePost_56 : zd 1 cX11_takePost 56 57 (.aload_n 0) := ⟨by decide +kernel, rfl⟩
theorem eX11_takePost_57 : zd 3 cX11_takePost 57 60 (.getfield 42) := ⟨by decide +kernel, rfl⟩
theorem eX11_takePost_60 : zd 1 cX11_takePost 60 61 (.aload_n 0) := ⟨by decide +kernel, rfl⟩
theorem eX11_takePost_61 : zd 3 cX11_takePost 61 64 (.getfield 141) := ⟨by decide +kernel, rfl⟩
theorem eX11_takePost_64 : zd 1 cX11_takePost 64 65 (.aload_n 0) := ⟨by decide +kernel, rfl⟩
theorem eX11_takePost_65 : zd 3 cX11_takePost 65 68 (.getfield 134) := ⟨by decide +kernel, rfl⟩
theorem eX11_takePost_68 : zd 1 cX11_takePost 68 69 (.iastore) := ⟨by decide +kernel, rfl⟩
theorem eX11_takePost_69 : zd 1 cX11_takePost 69 70 (.iload_n 1) := ⟨by decide +kernel, rfl⟩
theorem eX11_takePost_70 : zdi cX11_takePost 70 73 77 (.ifCond .le) := ⟨7, by decide +kernel, rfl, by decide⟩
theorem eX11_takePost_73 : zd 1 cX11_takePost 73 74 (.iload_n 1) := ⟨by decide +kernel, rfl⟩
theorem eX11_takePost_74 : zdi cX11_takePost 74 77 85 (.goto) := ⟨11, by decide +kernel, rfl, by decide⟩
theorem eX11_takePost_77 : zd 1 cX11_takePost 77 78 (.aload_n 0) := ⟨by decide +kernel, rfl⟩
theorem eX11_takePost_78 : zd 1 cX11_takePost 78 79 (.iconst 1) := ⟨by decide +kernel, rfl⟩
theorem eX11_takePost_79 : zd 3 cX11_takePost 79 82 (.sipush 999) := ⟨by decide +kernel, rfl⟩
theorem eX11_takePost_82 : zd 3 cX11_takePost 82 85 (.invokevirtual 138) := ⟨by decide +kernel, rfl⟩
theorem eX11_takePost_85 : zd 1 cX11_takePost 85 86 (.istore_n 1) := ⟨by decide +kernel, rfl⟩
theorem eX11_takePost_86 : zd 1 cX11_takePost 86 87 (.aload_n 0) := ⟨by decide +kernel, rfl⟩
theorem eX11_takePost_87 : zd 3 cX11_takePost 87 90 (.getfield 45) := ⟨by decide +kernel, rfl⟩
theorem eX11_takePost_90 : zd 1 cX11_takePost 90 91 (.aload_n 0) := ⟨by decide +kernel, rfl⟩
theorem eX11_takePost_91 : zd 3 cX11_takePost 91 94 (.getfield 141) := ⟨by decide +kernel, rfl⟩
theorem eX11_takePost_94 : zd 1 cX11_takePost 94 95 (.aload_n 0) := ⟨by decide +kernel, rfl⟩
theorem eX11_takePost_95 : zd 3 cX11_takePost 95 98 (.getfield 134) := ⟨by decide +kernel, rfl⟩
theorem eX11_takePost_98 : zd 1 cX11_takePost 98 99 (.iastore) := ⟨by decide +kernel, rfl⟩
theorem eX11_takePost_99 : zd 1 cX11_takePost 99 100 (.aload_n 0) := ⟨by decide +kernel, rfl⟩
theorem eX11_takePost_100 : zd 1 cX11_takePost 100 101 (.dup) := ⟨by decide +kernel, rfl⟩
theorem eX11_takePost_101 : zd 3 cX11_takePost 101 104 (.getfield 141) := ⟨by decide +kernel, rfl⟩
theorem eX11_takePost_104 : zd 1 cX11_takePost 104 105 (.iconst 1) := ⟨by decide +kernel, rfl⟩
theorem eX11_takePost_105 : zd 1 cX11_takePost 105 106 (.iadd) := ⟨by decide +kernel, rfl⟩
theorem eX11_takePost_106 : zd 3 cX11_takePost 106 109 (.putfield 141) := ⟨by decide +kernel, rfl⟩
theorem eX11_takePost_109 : zd 1 cX11_takePost 109 110 (.iload_n 1) := ⟨by decide +kernel, rfl⟩
theorem eX11_takePost_110 : zd 1 cX11_takePost 110 111 (.ireturn) := ⟨by decide +kernel, rfl⟩
theorem FX11_42 : zlF RX11 42 11 20 := ⟨(RX11, TX11, 34), rfl, by decide, q1091, zin11⟩
theorem FX11_45 : zlF RX11 45 11 21 := ⟨(RX11, TX11, 34), rfl, by decide, q1092, zin11⟩
theorem FX11_141 : zlF RX11 141 11 19 := ⟨(RX11, TX11, 34), rfl, by decide, q1090, zin11⟩
theorem PX11_141 : zlP RX11 141 11 19 .int := ⟨(RX11, TX11, 34), tyX11, rfl, by decide, q1090, zin11, tyX11_ok, nmX11, rfl, by decide +kernel⟩
noncomputable def fB_Mo_takePost_11 (v0 : tMo) (ih : (Int32 × Int32 × (Nat → Int32)) → Option (Int32 × Int32 × (Nat → Int32))) (s2 : Int32 × Int32 × (Nat → Int32)) : Option (Int32 × Int32 × (Nat → Int32)) := (if ((s2.2.2) 19) ≤ (s2.2.1) then (some ((s2.1), (s2.2.1), (s2.2.2))) else (if (s2.1) = 0 then (if inb (s2.2.1) 12 = true then (if ((gMo_readX v0) (ix (s2.2.1))) = ((s2.2.2) 16) then (zlet (f_Mo_fails ((s2.2.2), (gMo_told v0), (gMo_postX v0), (gMo_postStrong v0), (gMo_atRow v0), (gMo_heights v0), (gMo_ship v0), (gMo_lines v0), (gMo_text v0), (gMo_said v0), (gMo_readTold v0), (gMo_readX v0), (gMo_readStrong v0), (gMo_readRow v0), (gMo_parting v0), (gMo_wasShip v0), (gMo_wasLines v0), (gMo_worst v0), (gMo_logRow v0), (gMo_images v0), (gMo_isKept v0)) 4 ((s2.2.2) 17)) (fun (r11 : Int32 × (Nat → Int32)) => (ih ((r11.1), ((s2.2.1) + 1), (r11.2))))) else (ih (0, ((s2.2.1) + 1), (s2.2.2)))) else none) else (some ((s2.1), (s2.2.1), (s2.2.2)))))
noncomputable def f_Mo_takePost (v0 : tMo)  : Option (Int32 × (Nat → Int32) × (Nat → Int32) × (Nat → Int32)) := (Option.bind (f_Mo_takeNumber v0 0 9999) (fun (r1 : Int32 × (Nat → Int32)) => (Option.bind (lp (fB_Mo_takePost_11 v0) LF ((r1.1), 0, (r1.2))) (fun (q3 : Int32 × Int32 × (Nat → Int32)) => (if inb ((q3.2.2) 19) 12 = true then (Option.bind (if (q3.1) ≤ 0 then (Option.bind (f_Mo_takeNumber ((q3.2.2), (gMo_told v0), (gMo_postX v0), (gMo_postStrong v0), (gMo_atRow v0), (gMo_heights v0), (gMo_ship v0), (gMo_lines v0), (gMo_text v0), (gMo_said v0), (gMo_readTold v0), (upd (gMo_readX v0) (ix ((q3.2.2) 19)) ((q3.2.2) 16)), (gMo_readStrong v0), (gMo_readRow v0), (gMo_parting v0), (gMo_wasShip v0), (gMo_wasLines v0), (gMo_worst v0), (gMo_logRow v0), (gMo_images v0), (gMo_isKept v0)) 1 999) (fun (r16 : Int32 × (Nat → Int32)) => (some ((r16.1), (r16.2))))) else (some ((q3.1), (q3.2.2)))) (fun (w13 : Int32 × (Nat → Int32)) => (if inb ((w13.2) 19) 12 = true then (zlet (((w13.2) 19) + 1) (fun (z18 : Int32) => (some ((w13.1), (upd (w13.2) 19 z18), (upd (gMo_readX v0) (ix ((q3.2.2) 19)) ((q3.2.2) 16)), (upd (gMo_readStrong v0) (ix ((w13.2) 19)) ((w13.2) 16)))))) else none))) else none)))))
abbrev rm_Mo_takePost : Room := { frames := 2, cells := 0, slots := 0, locals := 48 }
set_option maxHeartbeats 4000000 in
set_option maxRecDepth 100000 in
theorem c_Mo_takePost (l : Launch) (g : zGl) (a0 : Nat → Nat) (o0 : Nat) (v0 : tMo)  (out : Int32 × (Nat → Int32) × (Nat → Int32) × (Nat → Int32)) (hf : f_Mo_takePost v0 = some out) : zMi l yX11_takePost cX11_takePost 3 rm_Mo_takePost g [.ref (a0 o0)] (W_Mo g a0 o0 (gMo_ints v0) (gMo_told v0) (gMo_postX v0) (gMo_postStrong v0) (gMo_atRow v0) (gMo_heights v0) (gMo_ship v0) (gMo_lines v0) (gMo_text v0) (gMo_said v0) (gMo_readTold v0) (gMo_readX v0) (gMo_readStrong v0) (gMo_readRow v0) (gMo_parting v0) (gMo_wasShip v0) (gMo_wasLines v0) (gMo_worst v0) (gMo_logRow v0) (gMo_images v0) (gMo_isKept v0)) (out.1) (W_Mo g a0 o0 (out.2.1) (gMo_told v0) (gMo_postX v0) (gMo_postStrong v0) (gMo_atRow v0) (gMo_heights v0) (gMo_ship v0) (gMo_lines v0) (gMo_text v0) (gMo_said v0) (gMo_readTold v0) (out.2.2.1) (out.2.2.2) (gMo_readRow v0) (gMo_parting v0) (gMo_wasShip v0) (gMo_wasLines v0) (gMo_worst v0) (gMo_logRow v0) (gMo_images v0) (gMo_isKept v0)) := by
  refine zMi_of (lv := [(0, .ref (a0 o0))]) (by decide) (Nat.le_of_ble_eq_true rfl) rfl (fun x hl hg C hret => ?_)
  subst hl; subst hg
  rw [f_Mo_takePost] at hf
  refine r_aload_n C eX11_takePost_0 0 rfl rfl ?_
  refine r_iconst C (v := 0) eX11_takePost_1 (by decide) ?_
  refine r_sipush C (v := 9999) eX11_takePost_2 (by decide) ?_
  obtain ⟨r1, hr1, hf⟩ := zbind hf
  refine r_V_i (ws' := W_Mo (z_g x) a0 o0 (r1.2) (gMo_told v0) (gMo_postX v0) (gMo_postStrong v0) (gMo_atRow v0) (gMo_heights v0) (gMo_ship v0) (gMo_lines v0) (gMo_text v0) (gMo_said v0) (gMo_readTold v0) (gMo_readX v0) (gMo_readStrong v0) (gMo_readRow v0) (gMo_parting v0) (gMo_wasShip v0) (gMo_wasLines v0) (gMo_worst v0) (gMo_logRow v0) (gMo_images v0) (gMo_isKept v0)) C (c_Mo_takeNumber (z_l x) (z_g x) a0 o0 v0 0 9999 r1 hr1) eX11_takePost_5 MX11_138 ⟨0, 11, _, _, rfl, rfl, rfl⟩ [0, 1, 2, 3, 4, 5, 6, 7, 8, 9, 10, 11, 12, 13, 14, 15, 16, 17, 18, 19] rfl rfl rfl rfl [] rfl trivial 20 rfl rfl rfl rfl rfl rfl ?_
  refine r_istore_n C [(1, .int (r1.1)), (0, .ref (a0 o0))] eX11_takePost_8 rfl (by decide) rfl ?_
  refine r_iconst C (v := 0) eX11_takePost_9 (by decide) ?_
  refine r_istore_n C [(2, .int 0), (1, .int (r1.1)), (0, .ref (a0 o0))] eX11_takePost_10 rfl (by decide) rfl ?_
  obtain ⟨q3, h4, hf⟩ := zbind hf
  have J5 : vV x 3 0 0 (W_Mo (z_g x) a0 o0 (q3.2.2) (gMo_told v0) (gMo_postX v0) (gMo_postStrong v0) (gMo_atRow v0) (gMo_heights v0) (gMo_ship v0) (gMo_lines v0) (gMo_text v0) (gMo_said v0) (gMo_readTold v0) (gMo_readX v0) (gMo_readStrong v0) (gMo_readRow v0) (gMo_parting v0) (gMo_wasShip v0) (gMo_wasLines v0) (gMo_worst v0) (gMo_logRow v0) (gMo_images v0) (gMo_isKept v0)) 56 [(0, .ref (a0 o0)), (1, .int (q3.1))] [] := by
    refine r_aload_n C eX11_takePost_56 0 rfl rfl ?_
    refine r_get (v := .ref (a0 (o0 + 10))) C eX11_takePost_57 FX11_42 0 rfl rfl ?_
    refine r_aload_n C eX11_takePost_60 0 rfl rfl ?_
    refine r_get (v := .int ((q3.2.2) 19)) C eX11_takePost_61 FX11_141 0 rfl rfl ?_
    refine r_aload_n C eX11_takePost_64 0 rfl rfl ?_
    refine r_get (v := .int ((q3.2.2) 16)) C eX11_takePost_65 FX11_134 0 rfl rfl ?_
    obtain ⟨hb12, hf⟩ := zchk hf
    refine r_iast (ws' := W_Mo (z_g x) a0 o0 (q3.2.2) (gMo_told v0) (gMo_postX v0) (gMo_postStrong v0) (gMo_atRow v0) (gMo_heights v0) (gMo_ship v0) (gMo_lines v0) (gMo_text v0) (gMo_said v0) (gMo_readTold v0) (upd (gMo_readX v0) (ix ((q3.2.2) 19)) ((q3.2.2) 16)) (gMo_readStrong v0) (gMo_readRow v0) (gMo_parting v0) (gMo_wasShip v0) (gMo_wasLines v0) (gMo_worst v0) (gMo_logRow v0) (gMo_images v0) (gMo_isKept v0)) C eX11_takePost_68 10 rfl (inb_in hb12) rfl ?_
    refine r_iload_n C eX11_takePost_69 1 rfl rfl ?_
    obtain ⟨w13, hw13, hf⟩ := zbind hf
    have J14 : vV x 3 0 0 (W_Mo (z_g x) a0 o0 (w13.2) (gMo_told v0) (gMo_postX v0) (gMo_postStrong v0) (gMo_atRow v0) (gMo_heights v0) (gMo_ship v0) (gMo_lines v0) (gMo_text v0) (gMo_said v0) (gMo_readTold v0) (upd (gMo_readX v0) (ix ((q3.2.2) 19)) ((q3.2.2) 16)) (gMo_readStrong v0) (gMo_readRow v0) (gMo_parting v0) (gMo_wasShip v0) (gMo_wasLines v0) (gMo_worst v0) (gMo_logRow v0) (gMo_images v0) (gMo_isKept v0)) 85 [(0, .ref (a0 o0))] [.int (w13.1)] := by
      refine r_istore_n C [(1, .int (w13.1)), (0, .ref (a0 o0))] eX11_takePost_85 rfl (by decide) rfl ?_
      refine r_aload_n C eX11_takePost_86 1 rfl rfl ?_
      refine r_get (v := .ref (a0 (o0 + 11))) C eX11_takePost_87 FX11_45 0 rfl rfl ?_
      refine r_aload_n C eX11_takePost_90 1 rfl rfl ?_
      refine r_get (v := .int ((w13.2) 19)) C eX11_takePost_91 FX11_141 0 rfl rfl ?_
      refine r_aload_n C eX11_takePost_94 1 rfl rfl ?_
      refine r_get (v := .int ((w13.2) 16)) C eX11_takePost_95 FX11_134 0 rfl rfl ?_
      obtain ⟨hb17, hf⟩ := zchk hf
      refine r_iast (ws' := W_Mo (z_g x) a0 o0 (w13.2) (gMo_told v0) (gMo_postX v0) (gMo_postStrong v0) (gMo_atRow v0) (gMo_heights v0) (gMo_ship v0) (gMo_lines v0) (gMo_text v0) (gMo_said v0) (gMo_readTold v0) (upd (gMo_readX v0) (ix ((q3.2.2) 19)) ((q3.2.2) 16)) (upd (gMo_readStrong v0) (ix ((w13.2) 19)) ((w13.2) 16)) (gMo_readRow v0) (gMo_parting v0) (gMo_wasShip v0) (gMo_wasLines v0) (gMo_worst v0) (gMo_logRow v0) (gMo_images v0) (gMo_isKept v0)) C eX11_takePost_98 11 rfl (inb_in hb17) rfl ?_
      refine r_aload_n C eX11_takePost_99 1 rfl rfl ?_
      refine r_dup C eX11_takePost_100 rfl ?_
      refine r_get (v := .int ((w13.2) 19)) C eX11_takePost_101 FX11_141 0 rfl rfl ?_
      refine r_iconst C (v := 1) eX11_takePost_104 (by decide) ?_
      refine r_iadd C eX11_takePost_105 ?_
      obtain ⟨z18, hz18, hf⟩ := zlet_of hf
      refine r_nami hz18 ?_
      refine r_put (ws' := W_Mo (z_g x) a0 o0 (upd (w13.2) 19 z18) (gMo_told v0) (gMo_postX v0) (gMo_postStrong v0) (gMo_atRow v0) (gMo_heights v0) (gMo_ship v0) (gMo_lines v0) (gMo_text v0) (gMo_said v0) (gMo_readTold v0) (upd (gMo_readX v0) (ix ((q3.2.2) 19)) ((q3.2.2) 16)) (upd (gMo_readStrong v0) (ix ((w13.2) 19)) ((w13.2) 16)) (gMo_readRow v0) (gMo_parting v0) (gMo_wasShip v0) (gMo_wasLines v0) (gMo_worst v0) (gMo_logRow v0) (gMo_images v0) (gMo_isKept v0)) C eX11_takePost_106 PX11_141 0 rfl rfl rfl (Nat.le_of_ble_eq_true rfl) rfl ?_
      refine r_iload_n C eX11_takePost_109 0 rfl rfl ?_
      obtain rfl := Option.some.inj (show some (((w13.1), (upd (w13.2) 19 z18), (upd (gMo_readX v0) (ix ((q3.2.2) 19)) ((q3.2.2) 16)), (upd (gMo_readStrong v0) (ix ((w13.2) 19)) ((w13.2) 16))) : Int32 × (Nat → Int32) × (Nat → Int32) × (Nat → Int32)) = some _ from hf)
      exact hret _ _ _ eX11_takePost_110
    refine r_if_le C eX11_takePost_70 (fun c15 => ?_) (fun c15 => ?_)
    · rw [if_pos c15] at hw13
      refine r_aload_n C eX11_takePost_77 0 rfl rfl ?_
      refine r_iconst C (v := 1) eX11_takePost_78 (by decide) ?_
      refine r_sipush C (v := 999) eX11_takePost_79 (by decide) ?_
      obtain ⟨r16, hr16, hw13⟩ := zbind hw13
      refine r_V_i (ws' := W_Mo (z_g x) a0 o0 (r16.2) (gMo_told v0) (gMo_postX v0) (gMo_postStrong v0) (gMo_atRow v0) (gMo_heights v0) (gMo_ship v0) (gMo_lines v0) (gMo_text v0) (gMo_said v0) (gMo_readTold v0) (upd (gMo_readX v0) (ix ((q3.2.2) 19)) ((q3.2.2) 16)) (gMo_readStrong v0) (gMo_readRow v0) (gMo_parting v0) (gMo_wasShip v0) (gMo_wasLines v0) (gMo_worst v0) (gMo_logRow v0) (gMo_images v0) (gMo_isKept v0)) C (c_Mo_takeNumber (z_l x) (z_g x) a0 o0 ((q3.2.2), (gMo_told v0), (gMo_postX v0), (gMo_postStrong v0), (gMo_atRow v0), (gMo_heights v0), (gMo_ship v0), (gMo_lines v0), (gMo_text v0), (gMo_said v0), (gMo_readTold v0), (upd (gMo_readX v0) (ix ((q3.2.2) 19)) ((q3.2.2) 16)), (gMo_readStrong v0), (gMo_readRow v0), (gMo_parting v0), (gMo_wasShip v0), (gMo_wasLines v0), (gMo_worst v0), (gMo_logRow v0), (gMo_images v0), (gMo_isKept v0)) 1 999 r16 hr16) eX11_takePost_82 MX11_138 ⟨0, 11, _, _, rfl, rfl, rfl⟩ [0, 1, 2, 3, 4, 5, 6, 7, 8, 9, 10, 11, 12, 13, 14, 15, 16, 17, 18, 19] rfl rfl rfl rfl [] rfl trivial 20 rfl rfl rfl rfl rfl rfl ?_
      obtain rfl := Option.some.inj hw13
      refine r_sub (lv' := [(0, .ref (a0 o0))]) [0] rfl ?_
      exact J14 
    · rw [if_neg c15] at hw13
      refine r_iload_n C eX11_takePost_73 1 rfl rfl ?_
      refine r_goto C eX11_takePost_74 ?_
      obtain rfl := Option.some.inj hw13
      refine r_sub (lv' := [(0, .ref (a0 o0))]) [0] rfl ?_
      exact J14 
  have L6 : ∀ (nL6 : Nat) (s2 : Int32 × Int32 × (Nat → Int32)), lp (fB_Mo_takePost_11 v0) nL6 s2 = some q3 → vV x 3 0 0 (W_Mo (z_g x) a0 o0 (s2.2.2) (gMo_told v0) (gMo_postX v0) (gMo_postStrong v0) (gMo_atRow v0) (gMo_heights v0) (gMo_ship v0) (gMo_lines v0) (gMo_text v0) (gMo_said v0) (gMo_readTold v0) (gMo_readX v0) (gMo_readStrong v0) (gMo_readRow v0) (gMo_parting v0) (gMo_wasShip v0) (gMo_wasLines v0) (gMo_worst v0) (gMo_logRow v0) (gMo_images v0) (gMo_isKept v0)) 11 [(0, .ref (a0 o0)), (1, .int (s2.1)), (2, .int (s2.2.1))] [] := by
    intro nL6
    induction nL6 with
    | zero => intro s2 hq; cases hq
    | succ nL6 ihL6 =>
      intro s2 hbL6
      rw [lp_succ, fB_Mo_takePost_11] at hbL6
      refine r_iload_n C eX11_takePost_11 2 rfl rfl ?_
      refine r_aload_n C eX11_takePost_12 0 rfl rfl ?_
      refine r_get (v := .int ((s2.2.2) 19)) C eX11_takePost_13 FX11_141 0 rfl rfl ?_
      refine r_icmp_ge C eX11_takePost_16 (fun c7 => ?_) (fun c7 => ?_)
      · rw [if_pos c7] at hbL6
        obtain rfl := Option.some.inj hbL6
        refine r_sub (lv' := [(0, .ref (a0 o0)), (1, .int (s2.1))]) [0, 1] rfl ?_
        exact J5
      · rw [if_neg c7] at hbL6
        refine r_iload_n C eX11_takePost_19 1 rfl rfl ?_
        refine r_if_ne C eX11_takePost_20 (fun c8 => ?_) (fun c8 => ?_)
        · rw [if_neg c8] at hbL6
          obtain rfl := Option.some.inj hbL6
          refine r_sub (lv' := [(0, .ref (a0 o0)), (1, .int (s2.1))]) [0, 1] rfl ?_
          exact J5
        · rw [if_pos c8] at hbL6
          refine r_aload_n C eX11_takePost_23 0 rfl rfl ?_
          refine r_get (v := .ref (a0 (o0 + 10))) C eX11_takePost_24 FX11_42 0 rfl rfl ?_
          refine r_iload_n C eX11_takePost_27 2 rfl rfl ?_
          obtain ⟨hb9, hbL6⟩ := zchk hbL6
          refine r_iald C eX11_takePost_28 10 rfl (inb_in hb9) ((gMo_readX v0) (ix (s2.2.1))) rfl ?_
          refine r_aload_n C eX11_takePost_29 0 rfl rfl ?_
          refine r_get (v := .int ((s2.2.2) 16)) C eX11_takePost_30 FX11_134 0 rfl rfl ?_
          refine r_icmp_ne C eX11_takePost_33 (fun c10 => ?_) (fun c10 => ?_)
          · rw [if_neg c10] at hbL6
            refine r_iconst C (v := 0) eX11_takePost_48 (by decide) ?_
            refine r_istore_n C [(1, .int 0), (0, .ref (a0 o0)), (2, .int (s2.2.1))] eX11_takePost_49 rfl (by decide) rfl ?_
            refine r_iinc C (v := ((s2.2.1) + 1)) [(2, .int ((s2.2.1) + 1)), (1, .int 0), (0, .ref (a0 o0))] eX11_takePost_50 2 rfl rfl (by decide) rfl ?_
            refine r_goto C eX11_takePost_53 ?_
            refine r_sub (lv' := [(0, .ref (a0 o0)), (1, .int 0), (2, .int ((s2.2.1) + 1))]) [2, 1, 0] rfl ?_
            have hc := ihL6 (0, ((s2.2.1) + 1), (s2.2.2)) hbL6
            exact hc
          · rw [if_pos c10] at hbL6
            refine r_aload_n C eX11_takePost_36 0 rfl rfl ?_
            refine r_iconst C (v := 4) eX11_takePost_37 (by decide) ?_
            refine r_aload_n C eX11_takePost_38 0 rfl rfl ?_
            refine r_get (v := .int ((s2.2.2) 17)) C eX11_takePost_39 FX11_131 0 rfl rfl ?_
            obtain ⟨r11, hr11, hbL6⟩ := zlet_of hbL6
            refine r_V_i (ws' := W_Mo (z_g x) a0 o0 (r11.2) (gMo_told v0) (gMo_postX v0) (gMo_postStrong v0) (gMo_atRow v0) (gMo_heights v0) (gMo_ship v0) (gMo_lines v0) (gMo_text v0) (gMo_said v0) (gMo_readTold v0) (gMo_readX v0) (gMo_readStrong v0) (gMo_readRow v0) (gMo_parting v0) (gMo_wasShip v0) (gMo_wasLines v0) (gMo_worst v0) (gMo_logRow v0) (gMo_images v0) (gMo_isKept v0)) C (c_Mo_fails (z_l x) (z_g x) a0 o0 ((s2.2.2), (gMo_told v0), (gMo_postX v0), (gMo_postStrong v0), (gMo_atRow v0), (gMo_heights v0), (gMo_ship v0), (gMo_lines v0), (gMo_text v0), (gMo_said v0), (gMo_readTold v0), (gMo_readX v0), (gMo_readStrong v0), (gMo_readRow v0), (gMo_parting v0), (gMo_wasShip v0), (gMo_wasLines v0), (gMo_worst v0), (gMo_logRow v0), (gMo_images v0), (gMo_isKept v0)) 4 ((s2.2.2) 17) r11 hr11) eX11_takePost_42 MX11_127 ⟨0, 11, _, _, rfl, rfl, rfl⟩ [0, 1, 2, 3, 4, 5, 6, 7, 8, 9, 10, 11, 12, 13, 14, 15, 16, 17, 18, 19] rfl rfl rfl rfl [] rfl trivial 20 rfl rfl rfl rfl rfl rfl ?_
            refine r_goto C eX11_takePost_45 ?_
            refine r_istore_n C [(1, .int (r11.1)), (0, .ref (a0 o0)), (2, .int (s2.2.1))] eX11_takePost_49 rfl (by decide) rfl ?_
            refine r_iinc C (v := ((s2.2.1) + 1)) [(2, .int ((s2.2.1) + 1)), (1, .int (r11.1)), (0, .ref (a0 o0))] eX11_takePost_50 2 rfl rfl (by decide) rfl ?_
            refine r_goto C eX11_takePost_53 ?_
            refine r_sub (lv' := [(0, .ref (a0 o0)), (1, .int (r11.1)), (2, .int ((s2.2.1) + 1))]) [2, 1, 0] rfl ?_
            have hc := ihL6 ((r11.1), ((s2.2.1) + 1), (r11.2)) hbL6
            exact hc
  refine r_sub (lv' := [(0, .ref (a0 o0)), (1, .int (r1.1)), (2, .int 0)]) [2, 1, 0] rfl ?_
  have hc := L6 LF ((r1.1), 0, (r1.2)) h4
  exact hc
theorem eX11_takeClause_0 : zd 1 cX11_takeClause 0 1 (.aload_n 0) := ⟨by decide +kernel, rfl⟩
theorem eX11_takeClause_1 : zd 3 cX11_takeClause 1 4 (.invokevirtual 154) := ⟨by decide +kernel, rfl⟩
theorem eX11_takeClause_4 : zd 1 cX11_takeClause 4 5 (.aload_n 0) := ⟨by decide +kernel, rfl⟩
theorem eX11_takeClause_5 : zd 3 cX11_takeClause 5 8 (.invokevirtual 157) := ⟨by decide +kernel, rfl⟩
theorem eX11_takeClause_8 : zd 1 cX11_takeClause 8 9 (.istore_n 1) := ⟨by decide +kernel, rfl⟩
theorem eX11_takeClause_9 : zd 1 cX11_takeClause 9 10 (.iload_n 1) := ⟨by decide +kernel, rfl⟩
theorem eX11_takeClause_10 : zdi cX11_takeClause 10 13 23 (.ifCond .ge) := ⟨13, by decide +kernel, rfl, by decide⟩
theorem eX11_takeClause_13 : zd 1 cX11_takeClause 13 14 (.aload_n 0) := ⟨by decide +kernel, rfl⟩
theorem eX11_takeClause_14 : zd 1 cX11_takeClause 14 15 (.iconst 1) := ⟨by decide +kernel, rfl⟩
theorem eX11_takeClause_15 : zd 1 cX11_takeClause 15 16 (.aload_n 0) := ⟨by decide +kernel, rfl⟩
theorem eX11_takeClause_16 : zd 3 cX11_takeClause 16 19 (.getfield 97) := ⟨by decide +kernel, rfl⟩
theorem eX11_takeClause_19 : zd 3 cX11_takeClause 19 22 (.invokevirtual 127) := ⟨by decide +kernel, rfl⟩
theorem eX11_takeClause_22 : zd 1 cX11_takeClause 22 23 (.ireturn) := ⟨by decide +kernel, rfl⟩
theorem eX11_takeClause_23 : zd 1 cX11_takeClause 23 24 (.iload_n 1) := ⟨by decide +kernel, rfl⟩
theorem eX11_takeClause_24 : zd 1 cX11_takeClause 24 25 (.iconst 1) := ⟨by decide +kernel, rfl⟩
theorem eX11_takeClause_25 : zdi cX11_takeClause 25 28 40 (.if_icmp .ne) := ⟨15, by decide +kernel, rfl, by decide⟩
theorem eX11_takeClause_28 : zd 1 cX11_takeClause 28 29 (.aload_n 0) := ⟨by decide +kernel, rfl⟩
theorem eX11_takeClause_29 : zd 3 cX11_takeClause 29 32 (.getfield 141) := ⟨by decide +kernel, rfl⟩
theorem eX11_takeClause_32 : zd 2 cX11_takeClause 32 34 (.bipush 12) := ⟨by decide +kernel, rfl⟩
theorem eX11_takeClause_34 : zdi cX11_takeClause 34 37 62 (.if_icmp .ne) := ⟨28, by decide +kernel, rfl, by decide⟩
theorem eX11_takeClause_37 : zdi cX11_takeClause 37 40 52 (.goto) := ⟨15, by decide +kernel, rfl, by decide⟩
theorem eX11_takeClause_40 : zd 1 cX11_takeClause 40 41 (.aload_n 0) := ⟨by decide +kernel, rfl⟩
theorem eX11_takeClause_41 : zd 3 cX11_takeClause 41 44 (.getfield 160) := ⟨by decide +kernel, rfl⟩
theorem eX11_takeClause_44 : zd 1 cX11_takeClause 44 45 (.iload_n 1) := ⟨by decide +kernel, rfl⟩
theorem eX11_takeClause_45 : zd 1 cX11_takeClause 45 46 (.ishr) := ⟨by decide +kernel, rfl⟩
theorem eX11_takeClause_46 : zd 1 cX11_takeClause 46 47 (.iconst 1) := ⟨by decide +kernel, rfl⟩
theorem eX11_takeClause_47 : zd 1 cX11_takeClause 47 48 (.iand) := ⟨by decide +kernel, rfl⟩
theorem eX11_takeClause_48 : zd 1 cX11_takeClause 48 49 (.iconst 1) := ⟨by decide +kernel, rfl⟩
theorem eX11_takeClause_49 : zdi cX11_takeClause 49 52 62 (.if_icmp .ne) := ⟨13, by decide +kernel, rfl, by decide⟩
theorem eX11_takeClause_52 : zd 1 cX11_takeClause 52 53 (.aload_n 0) := ⟨by decide +kernel, rfl⟩
theorem eX11_takeClause_53 : zd 1 cX11_takeClause 53 54 (.iconst 3) := ⟨by decide +kernel, rfl⟩
theorem eX11_takeClause_54 : zd 1 cX11_takeClause 54 55 (.aload_n 0) := ⟨by decide +kernel, rfl⟩
theorem eX11_takeClause_55 : zd 3 cX11_takeClause 55 58 (.getfield 97) := ⟨by decide +kernel, rfl⟩
theorem eX11_takeClause_58 : zd 3 cX11_takeClause 58 61 (.invokevirtual 127) := ⟨by decide +kernel, rfl⟩
theorem eX11_takeClause_61 : zd 1 cX11_takeClause 61 62 (.ireturn) := ⟨by decide +kernel, rfl⟩
theorem eX11_takeClause_62 : zd 1 cX11_takeClause 62 63 (.aload_n 0) := ⟨by decide +kernel, rfl⟩
theorem eX11_takeClause_63 : zd 1 cX11_takeClause 63 64 (.dup) := ⟨by decide +kernel, rfl⟩
theorem eX11_takeClause_64 : zd 3 cX11_takeClause 64 67 (.getfield 160) := ⟨by decide +kernel, rfl⟩
theorem eX11_takeClause_67 : zd 1 cX11_takeClause 67 68 (.iconst 1) := ⟨by decide +kernel, rfl⟩
theorem eX11_takeClause_68 : zd 1 cX11_takeClause 68 69 (.iload_n 1) := ⟨by decide +kernel, rfl⟩
theorem eX11_takeClause_69 : zd 1 cX11_takeClause 69 70 (.ishl) := ⟨by decide +kernel, rfl⟩
theorem eX11_takeClause_70 : zd 1 cX11_takeClause 70 71 (.ior) := ⟨by decide +kernel, rfl⟩
theorem eX11_takeClause_71 : zd 3 cX11_takeClause 71 74 (.putfield 160) := ⟨by decide +kernel, rfl⟩
theorem eX11_takeClause_74 : zd 1 cX11_takeClause 74 75 (.aload_n 0) := ⟨by decide +kernel, rfl⟩
theorem eX11_takeClause_75 : zd 1 cX11_takeClause 75 76 (.aload_n 0) := ⟨by decide +kernel, rfl⟩
theorem eX11_takeClause_76 : zd 3 cX11_takeClause 76 79 (.getfield 108) := ⟨by decide +kernel, rfl⟩
theorem eX11_takeClause_79 : zd 3 cX11_takeClause 79 82 (.putfield 97) := ⟨by decide +kernel, rfl⟩
theorem eX11_takeClause_82 : zd 1 cX11_takeClause 82 83 (.iconst 0) := ⟨by decide +kernel, rfl⟩
theorem eX11_takeClause_83 : zd 1 cX11_takeClause 83 84 (.istore_n 2) := ⟨by decide +kernel, rfl⟩
theorem eX11_takeClause_84 : zd 1 cX11_takeClause 84 85 (.iload_n 1) := ⟨by decide +kernel, rfl⟩
theorem eX11_takeClause_85 : decode cX11_takeClause 85 = .ok (.tableswitch 231 0 8 #[51, 89, 97, 231, 129, 142, 191, 204, 217], 51) := by decide +kernel
theorem eX11_takeClause_136 : zd 1 cX11_takeClause 136 137 (.aload_n 0) := ⟨by decide +kernel, rfl⟩
theorem eX11_takeClause_137 : zd 1 cX11_takeClause 137 138 (.iconst 0) := ⟨by decide +kernel, rfl⟩
theorem eX11_takeClause_138 : zd 1 cX11_takeClause 138 139 (.iconst 0) := ⟨by decide +kernel, rfl⟩
theorem eX11_takeClause_139 : zd 3 cX11_takeClause 139 142 (.sipush 9999) := ⟨by decide +kernel, rfl⟩
theorem eX11_takeClause_142 : zd 3 cX11_takeClause 142 145 (.invokevirtual 163) := ⟨by decide +kernel, rfl⟩
theorem eX11_takeClause_145 : zd 1 cX11_takeClause 145 146 (.istore_n 2) := ⟨by decide +kernel, rfl⟩
theorem eX11_takeClause_146 : zd 1 cX11_takeClause 146 147 (.iload_n 2) := ⟨by decide +kernel, rfl⟩
theorem eX11_takeClause_147 : zdi cX11_takeClause 147 150 154 (.ifCond .le) := ⟨7, by decide +kernel, rfl, by decide⟩
theorem eX11_takeClause_150 : zd 1 cX11_takeClause 150 151 (.iload_n 2) := ⟨by decide +kernel, rfl⟩
theorem eX11_takeClause_151 : zdi cX11_takeClause 151 154 170 (.goto) := ⟨19, by decide +kernel, rfl, by decide⟩
theorem eX11_takeClause_154 : zd 1 cX11_takeClause 154 155 (.aload_n 0) := ⟨by decide +kernel, rfl⟩
theorem eX11_takeClause_155 : zd 1 cX11_takeClause 155 156 (.iconst 1) := ⟨by decide +kernel, rfl⟩
theorem eX11_takeClause_156 : zd 1 cX11_takeClause 156 157 (.aload_n 0) := ⟨by decide +kernel, rfl⟩
theorem eX11_takeClause_157 : zd 3 cX11_takeClause 157 160 (.getfield 39) := ⟨by decide +kernel, rfl⟩
theorem eX11_takeClause_160 : zd 1 cX11_takeClause 160 161 (.iconst 0) := ⟨by decide +kernel, rfl⟩
theorem eX11_takeClause_161 : zd 1 cX11_takeClause 161 162 (.iaload) := ⟨by decide +kernel, rfl⟩
theorem eX11_takeClause_162 : zd 1 cX11_takeClause 162 163 (.iconst 1) := ⟨by decide +kernel, rfl⟩
theorem eX11_takeClause_163 : zd 1 cX11_takeClause 163 164 (.iadd) := ⟨by decide +kernel, rfl⟩
theorem eX11_takeClause_164 : zd 3 cX11_takeClause 164 167 (.sipush 9999) := ⟨by decide +kernel, rfl⟩
theorem eX11_takeClause_167 : zd 3 cX11_takeClause 167 170 (.invokevirtual 163) := ⟨by decide +kernel, rfl⟩
theorem eX11_takeClause_170 : zd 1 cX11_takeClause 170 171 (.istore_n 2) := ⟨by decide +kernel, rfl⟩
theorem eX11_takeClause_171 : zdi cX11_takeClause 171 174 342 (.goto) := ⟨171, by decide +kernel, rfl, by decide⟩
theorem eX11_takeClause_174 : zd 1 cX11_takeClause 174 175 (.aload_n 0) := ⟨by decide +kernel, rfl⟩
theorem eX11_takeClause_175 : zd 3 cX11_takeClause 175 178 (.invokevirtual 167) := ⟨by decide +kernel, rfl⟩
theorem eX11_takeClause_178 : zd 1 cX11_takeClause 178 179 (.istore_n 2) := ⟨by decide +kernel, rfl⟩
theorem eX11_takeClause_179 : zdi cX11_takeClause 179 182 342 (.goto) := ⟨163, by decide +kernel, rfl, by decide⟩
theorem eX11_takeClause_182 : zd 1 cX11_takeClause 182 183 (.aload_n 0) := ⟨by decide +kernel, rfl⟩
theorem eX11_takeClause_183 : zd 1 cX11_takeClause 183 184 (.iconst 2) := ⟨by decide +kernel, rfl⟩
theorem eX11_takeClause_184 : zd 3 cX11_takeClause 184 187 (.sipush 500) := ⟨by decide +kernel, rfl⟩
theorem eX11_takeClause_187 : zd 3 cX11_takeClause 187 190 (.sipush 9000) := ⟨by decide +kernel, rfl⟩
theorem eX11_takeClause_190 : zd 3 cX11_takeClause 190 193 (.invokevirtual 163) := ⟨by decide +kernel, rfl⟩
theorem eX11_takeClause_193 : zd 1 cX11_takeClause 193 194 (.istore_n 2) := ⟨by decide +kernel, rfl⟩
theorem eX11_takeClause_194 : zd 1 cX11_takeClause 194 195 (.iload_n 2) := ⟨by decide +kernel, rfl⟩
theorem eX11_takeClause_195 : zdi cX11_takeClause 195 198 202 (.ifCond .le) := ⟨7, by decide +kernel, rfl, by decide⟩
theorem eX11_takeClause_198 : zd 1 cX11_takeClause 198 199 (.iload_n 2) := ⟨by decide +kernel, rfl⟩
theorem eX11_takeClause_199 : zdi cX11_takeClause 199 202 210 (.goto) := ⟨11, by decide +kernel, rfl, by decide⟩
theorem eX11_takeClause_202 : zd 1 cX11_takeClause 202 203 (.aload_n 0) := ⟨by decide +kernel, rfl⟩
theorem eX11_takeClause_203 : zd 1 cX11_takeClause 203 204 (.iconst 3) := ⟨by decide +kernel, rfl⟩
theorem eX11_takeClause_204 : zd 1 cX11_takeClause 204 205 (.iconst 1) := ⟨by decide +kernel, rfl⟩
theorem eX11_takeClause_205 : zd 2 cX11_takeClause 205 207 (.bipush 99) := ⟨by decide +kernel, rfl⟩
theorem eX11_takeClause_207 : zd 3 cX11_takeClause 207 210 (.invokevirtual 163) := ⟨by decide +kernel, rfl⟩
theorem eX11_takeClause_210 : zd 1 cX11_takeClause 210 211 (.istore_n 2) := ⟨by decide +kernel, rfl⟩
theorem eX11_takeClause_211 : zdi cX11_takeClause 211 214 342 (.goto) := ⟨131, by decide +kernel, rfl, by decide⟩
theorem eX11_takeClause_214 : zd 1 cX11_takeClause 214 215 (.aload_n 0) := ⟨by decide +kernel, rfl⟩
theorem eX11_takeClause_215 : zd 2 cX11_takeClause 215 217 (.bipush 6) := ⟨by decide +kernel, rfl⟩
theorem eX11_takeClause_217 : zd 1 cX11_takeClause 217 218 (.iconst 0) := ⟨by decide +kernel, rfl⟩
theorem eX11_takeClause_218 : zd 2 cX11_takeClause 218 220 (.bipush 99) := ⟨by decide +kernel, rfl⟩
theorem eX11_takeClause_220 : zd 3 cX11_takeClause 220 223 (.invokevirtual 163) := ⟨by decide +kernel, rfl⟩
theorem eX11_takeClause_223 : zd 1 cX11_takeClause 223 224 (.istore_n 2) := ⟨by decide +kernel, rfl⟩
theorem eX11_takeClause_224 : zdi cX11_takeClause 224 227 342 (.goto) := ⟨118, by decide +kernel, rfl, by decide⟩
theorem eX11_takeClause_227 : zd 1 cX11_takeClause 227 228 (.aload_n 0) := ⟨by decide +kernel, rfl⟩
theorem eX11_takeClause_228 : zd 2 cX11_takeClause 228 230 (.bipush 7) := ⟨by decide +kernel, rfl⟩
theorem eX11_takeClause_230 : zd 1 cX11_takeClause 230 231 (.iconst 0) := ⟨by decide +kernel, rfl⟩
theorem eX11_takeClause_231 : zd 2 cX11_takeClause 231 233 (.bipush 50) := ⟨by decide +kernel, rfl⟩
theorem eX11_takeClause_233 : zd 3 cX11_takeClause 233 236 (.invokevirtual 163) := ⟨by decide +kernel, rfl⟩
theorem eX11_takeClause_236 : zd 1 cX11_takeClause 236 237 (.istore_n 2) := ⟨by decide +kernel, rfl⟩
theorem eX11_takeClause_237 : zd 1 cX11_takeClause 237 238 (.iload_n 2) := ⟨by decide +kernel, rfl⟩
theorem eX11_takeClause_238 : zdi cX11_takeClause 238 241 245 (.ifCond .le) := ⟨7, by decide +kernel, rfl, by decide⟩
theorem eX11_takeClause_241 : zd 1 cX11_takeClause 241 242 (.iload_n 2) := ⟨by decide +kernel, rfl⟩
theorem eX11_takeClause_242 : zdi cX11_takeClause 242 245 254 (.goto) := ⟨12, by decide +kernel, rfl, by decide⟩
theorem eX11_takeClause_245 : zd 1 cX11_takeClause 245 246 (.aload_n 0) := ⟨by decide +kernel, rfl⟩
theorem eX11_takeClause_246 : zd 2 cX11_takeClause 246 248 (.bipush 8) := ⟨by decide +kernel, rfl⟩
theorem eX11_takeClause_248 : zd 1 cX11_takeClause 248 249 (.iconst 0) := ⟨by decide +kernel, rfl⟩
theorem eX11_takeClause_249 : zd 2 cX11_takeClause 249 251 (.bipush 50) := ⟨by decide +kernel, rfl⟩
theorem eX11_takeClause_251 : zd 3 cX11_takeClause 251 254 (.invokevirtual 163) := ⟨by decide +kernel, rfl⟩
theorem eX11_takeClause_254 : zd 1 cX11_takeClause 254 255 (.istore_n 2) := ⟨by decide +kernel, rfl⟩
theorem eX11_takeClause_255 : zd 1 cX11_takeClause 255 256 (.iload_n 2) := ⟨by decide +kernel, rfl⟩
theorem eX11_takeClause_256 : zdi cX11_takeClause 256 259 263 (.ifCond .le) := ⟨7, by decide +kernel, rfl, by decide⟩
theorem eX11_takeClause_259 : zd 1 cX11_takeClause 259 260 (.iload_n 2) := ⟨by decide +kernel, rfl⟩
theorem eX11_takeClause_260 : zdi cX11_takeClause 260 263 272 (.goto) := ⟨12, by decide +kernel, rfl, by decide⟩
theorem eX11_takeClause_263 : zd 1 cX11_takeClause 263 264 (.aload_n 0) := ⟨by decide +kernel, rfl⟩
theorem eX11_takeClause_264 : zd 2 cX11_takeClause 264 266 (.bipush 9) := ⟨by decide +kernel, rfl⟩
theorem eX11_takeClause_266 : zd 1 cX11_takeClause 266 267 (.iconst 0) := ⟨by decide +kernel, rfl⟩
theorem eX11_takeClause_267 : zd 2 cX11_takeClause 267 269 (.bipush 50) := ⟨by decide +kernel, rfl⟩
theorem eX11_takeClause_269 : zd 3 cX11_takeClause 269 272 (.invokevirtual 163) := ⟨by decide +kernel, rfl⟩
theorem eX11_takeClause_272 : zd 1 cX11_takeClause 272 273 (.istore_n 2) := ⟨by decide +kernel, rfl⟩
theorem eX11_takeClause_273 : zdi cX11_takeClause 273 276 342 (.goto) := ⟨69, by decide +kernel, rfl, by decide⟩
theorem eX11_takeClause_276 : zd 1 cX11_takeClause 276 277 (.aload_n 0) := ⟨by decide +kernel, rfl⟩
theorem eX11_takeClause_277 : zd 2 cX11_takeClause 277 279 (.bipush 10) := ⟨by decide +kernel, rfl⟩
theorem eX11_takeClause_279 : zd 1 cX11_takeClause 279 280 (.iconst 0) := ⟨by decide +kernel, rfl⟩
theorem eX11_takeClause_280 : zd 2 cX11_takeClause 280 282 (.bipush 99) := ⟨by decide +kernel, rfl⟩
theorem eX11_takeClause_282 : zd 3 cX11_takeClause 282 285 (.invokevirtual 163) := ⟨by decide +kernel, rfl⟩
theorem eX11_takeClause_285 : zd 1 cX11_takeClause 285 286 (.istore_n 2) := ⟨by decide +kernel, rfl⟩
theorem eX11_takeClause_286 : zdi cX11_takeClause 286 289 342 (.goto) := ⟨56, by decide +kernel, rfl, by decide⟩
theorem eX11_takeClause_289 : zd 1 cX11_takeClause 289 290 (.aload_n 0) := ⟨by decide +kernel, rfl⟩
theorem eX11_takeClause_290 : zd 2 cX11_takeClause 290 292 (.bipush 11) := ⟨by decide +kernel, rfl⟩
theorem eX11_takeClause_292 : zd 1 cX11_takeClause 292 293 (.iconst 1) := ⟨by decide +kernel, rfl⟩
theorem eX11_takeClause_293 : zd 2 cX11_takeClause 293 295 (.bipush 99) := ⟨by decide +kernel, rfl⟩
theorem eX11_takeClause_295 : zd 3 cX11_takeClause 295 298 (.invokevirtual 163) := ⟨by decide +kernel, rfl⟩
theorem eX11_takeClause_298 : zd 1 cX11_takeClause 298 299 (.istore_n 2) := ⟨by decide +kernel, rfl⟩
theorem eX11_takeClause_299 : zdi cX11_takeClause 299 302 342 (.goto) := ⟨43, by decide +kernel, rfl, by decide⟩
theorem eX11_takeClause_302 : zd 1 cX11_takeClause 302 303 (.aload_n 0) := ⟨by decide +kernel, rfl⟩
theorem eX11_takeClause_303 : zd 2 cX11_takeClause 303 305 (.bipush 12) := ⟨by decide +kernel, rfl⟩
theorem eX11_takeClause_305 : zd 1 cX11_takeClause 305 306 (.iconst 0) := ⟨by decide +kernel, rfl⟩
theorem eX11_takeClause_306 : zd 3 cX11_takeClause 306 309 (.sipush 999) := ⟨by decide +kernel, rfl⟩
theorem eX11_takeClause_309 : zd 3 cX11_takeClause 309 312 (.invokevirtual 163) := ⟨by decide +kernel, rfl⟩
theorem eX11_takeClause_312 : zd 1 cX11_takeClause 312 313 (.istore_n 2) := ⟨by decide +kernel, rfl⟩
theorem eX11_takeClause_313 : zdi cX11_takeClause 313 316 342 (.goto) := ⟨29, by decide +kernel, rfl, by decide⟩
theorem eX11_takeClause_316 : zd 1 cX11_takeClause 316 317 (.aload_n 0) := ⟨by decide +kernel, rfl⟩
theorem eX11_takeClause_317 : zd 1 cX11_takeClause 317 318 (.iconst 4) := ⟨by decide +kernel, rfl⟩
theorem eX11_takeClause_318 : zd 1 cX11_takeClause 318 319 (.iconst 0) := ⟨by decide +kernel, rfl⟩
theorem eX11_takeClause_319 : zd 2 cX11_takeClause 319 321 (.bipush 50) := ⟨by decide +kernel, rfl⟩
theorem eX11_takeClause_321 : zd 3 cX11_takeClause 321 324 (.invokevirtual 163) := ⟨by decide +kernel, rfl⟩
theorem eX11_takeClause_324 : zd 1 cX11_takeClause 324 325 (.istore_n 2) := ⟨by decide +kernel, rfl⟩
theorem eX11_takeClause_325 : zd 1 cX11_takeClause 325 326 (.iload_n 2) := ⟨by decide +kernel, rfl⟩
theorem eX11_takeClause_326 : zdi cX11_takeClause 326 329 333 (.ifCond .le) := ⟨7, by decide +kernel, rfl, by decide⟩
theorem eX11_takeClause_329 : zd 1 cX11_takeClause 329 330 (.iload_n 2) := ⟨by decide +kernel, rfl⟩
theorem eX11_takeClause_330 : zdi cX11_takeClause 330 333 341 (.goto) := ⟨11, by decide +kernel, rfl, by decide⟩
theorem eX11_takeClause_333 : zd 1 cX11_takeClause 333 334 (.aload_n 0) := ⟨by decide +kernel, rfl⟩
theorem eX11_takeClause_334 : zd 1 cX11_takeClause 334 335 (.iconst 5) := ⟨by decide +kernel, rfl⟩
theorem eX11_takeClause_335 : zd 1 cX11_takeClause 335 336 (.iconst 0) := ⟨by decide +kernel, rfl⟩
theorem eX11_takeClause_336 : zd 2 cX11_takeClause 336 338 (.bipush 99) := ⟨by decide +kernel, rfl⟩
theorem eX11_takeClause_338 : zd 3 cX11_takeClause 338 341 (.invokevirtual 163) := ⟨by decide +kernel, rfl⟩
theorem eX11_takeClause_341 : zd 1 cX11_takeClause 341 342 (.istore_n 2) := ⟨by decide +kernel, rfl⟩
theorem eX11_takeClause_342 : zd 1 cX11_takeClause 342 343 (.iload_n 2) := ⟨by decide +kernel, rfl⟩
theorem eX11_takeClause_343 : zdi cX11_takeClause 343 346 350 (.ifCond .le) := ⟨7, by decide +kernel, rfl, by decide⟩
theorem eX11_takeClause_346 : zd 1 cX11_takeClause 346 347 (.iload_n 2) := ⟨by decide +kernel, rfl⟩
theorem eX11_takeClause_347 : zdi cX11_takeClause 347 350 354 (.goto) := ⟨7, by decide +kernel, rfl, by decide⟩
theorem eX11_takeClause_350 : zd 1 cX11_takeClause 350 351 (.aload_n 0) := ⟨by decide +kernel, rfl⟩
theorem eX11_takeClause_351 : zd 3 cX11_takeClause 351 354 (.invokevirtual 170) := ⟨by decide +kernel, rfl⟩
theorem eX11_takeClause_354 : zd 1 cX11_takeClause 354 355 (.ireturn) := ⟨by decide +kernel, rfl⟩
theorem FX11_160 : zlF RX11 160 11 22 := ⟨(RX11, TX11, 34), rfl, by decide, q1093, zin11⟩
theorem PX11_160 : zlP RX11 160 11 22 .int := ⟨(RX11, TX11, 34), tyX11, rfl, by decide, q1093, zin11, tyX11_ok, nmX11, rfl, by decide +kernel⟩
theorem MX11_157 : zlV RX11 157 yX11_clauseOf cX11_clauseOf 3 ((Option.some FieldType.int)) 0 := ⟨q1208, q1210, qs29, q12, q1211, by decide, by decide, by decide +kernel⟩
theorem MX11_163 : zlV RX11 163 yX11_take cX11_take 5 ((Option.some FieldType.int)) 3 := ⟨q1223, q1225, qs31, q12, q1226, by decide, by decide, by decide +kernel⟩
theorem MX11_167 : zlV RX11 167 yX11_takePost cX11_takePost 3 ((Option.some FieldType.int)) 0 := ⟨q1234, q1236, qs33, q12, q1237, by decide, by decide, by decide +kernel⟩
noncomputable def f_Mo_takeClause (v0 : tMo)  : Option (Int32 × (Nat → Int32) × Int64 × (Nat → Int32) × (Nat → Int32) × (Nat → Int32)) := (Option.bind (f_Mo_readWord v0) (fun (r1 : (Nat → Int32) × Int64) => (zlet (f_Mo_clauseOf ((r1.1), (gMo_told v0), (gMo_postX v0), (gMo_postStrong v0), (gMo_atRow v0), (gMo_heights v0), (gMo_ship v0), (gMo_lines v0), (gMo_text v0), (r1.2), (gMo_readTold v0), (gMo_readX v0), (gMo_readStrong v0), (gMo_readRow v0), (gMo_parting v0), (gMo_wasShip v0), (gMo_wasLines v0), (gMo_worst v0), (gMo_logRow v0), (gMo_images v0), (gMo_isKept v0))) (fun (z2 : Int32) => (if 0 ≤ z2 then (if z2 = 1 then (if ((r1.1) 19) = 12 then (zlet (f_Mo_fails ((r1.1), (gMo_told v0), (gMo_postX v0), (gMo_postStrong v0), (gMo_atRow v0), (gMo_heights v0), (gMo_ship v0), (gMo_lines v0), (gMo_text v0), (r1.2), (gMo_readTold v0), (gMo_readX v0), (gMo_readStrong v0), (gMo_readRow v0), (gMo_parting v0), (gMo_wasShip v0), (gMo_wasLines v0), (gMo_worst v0), (gMo_logRow v0), (gMo_images v0), (gMo_isKept v0)) 3 ((r1.1) 13)) (fun (r6 : Int32 × (Nat → Int32)) => (some ((r6.1), (r6.2), (r1.2), (gMo_readTold v0), (gMo_readX v0), (gMo_readStrong v0))))) else (zlet (((r1.1) 22) ||| (1 <<< (z2 &&& 31))) (fun (z7 : Int32) => (Option.bind (if z2 = 0 then (Option.bind (f_Mo_take ((upd (upd (r1.1) 22 z7) 13 ((r1.1) 15)), (gMo_told v0), (gMo_postX v0), (gMo_postStrong v0), (gMo_atRow v0), (gMo_heights v0), (gMo_ship v0), (gMo_lines v0), (gMo_text v0), (r1.2), (gMo_readTold v0), (gMo_readX v0), (gMo_readStrong v0), (gMo_readRow v0), (gMo_parting v0), (gMo_wasShip v0), (gMo_wasLines v0), (gMo_worst v0), (gMo_logRow v0), (gMo_images v0), (gMo_isKept v0)) 0 0 9999) (fun (r19 : Int32 × (Nat → Int32) × (Nat → Int32)) => (if (r19.1) ≤ 0 then (Option.bind (f_Mo_take ((r19.2.1), (gMo_told v0), (gMo_postX v0), (gMo_postStrong v0), (gMo_atRow v0), (gMo_heights v0), (gMo_ship v0), (gMo_lines v0), (gMo_text v0), (r1.2), (r19.2.2), (gMo_readX v0), (gMo_readStrong v0), (gMo_readRow v0), (gMo_parting v0), (gMo_wasShip v0), (gMo_wasLines v0), (gMo_worst v0), (gMo_logRow v0), (gMo_images v0), (gMo_isKept v0)) 1 (((r19.2.2) 0) + 1) 9999) (fun (r21 : Int32 × (Nat → Int32) × (Nat → Int32)) => (some ((r21.1), (r21.2.1), (r21.2.2), (gMo_readX v0), (gMo_readStrong v0))))) else (some ((r19.1), (r19.2.1), (r19.2.2), (gMo_readX v0), (gMo_readStrong v0)))))) else (if z2 = 1 then (Option.bind (f_Mo_takePost ((upd (upd (r1.1) 22 z7) 13 ((r1.1) 15)), (gMo_told v0), (gMo_postX v0), (gMo_postStrong v0), (gMo_atRow v0), (gMo_heights v0), (gMo_ship v0), (gMo_lines v0), (gMo_text v0), (r1.2), (gMo_readTold v0), (gMo_readX v0), (gMo_readStrong v0), (gMo_readRow v0), (gMo_parting v0), (gMo_wasShip v0), (gMo_wasLines v0), (gMo_worst v0), (gMo_logRow v0), (gMo_images v0), (gMo_isKept v0))) (fun (r22 : Int32 × (Nat → Int32) × (Nat → Int32) × (Nat → Int32)) => (some ((r22.1), (r22.2.1), (gMo_readTold v0), (r22.2.2.1), (r22.2.2.2))))) else (if z2 = 2 then (Option.bind (f_Mo_take ((upd (upd (r1.1) 22 z7) 13 ((r1.1) 15)), (gMo_told v0), (gMo_postX v0), (gMo_postStrong v0), (gMo_atRow v0), (gMo_heights v0), (gMo_ship v0), (gMo_lines v0), (gMo_text v0), (r1.2), (gMo_readTold v0), (gMo_readX v0), (gMo_readStrong v0), (gMo_readRow v0), (gMo_parting v0), (gMo_wasShip v0), (gMo_wasLines v0), (gMo_worst v0), (gMo_logRow v0), (gMo_images v0), (gMo_isKept v0)) 2 500 9000) (fun (r23 : Int32 × (Nat → Int32) × (Nat → Int32)) => (if (r23.1) ≤ 0 then (Option.bind (f_Mo_take ((r23.2.1), (gMo_told v0), (gMo_postX v0), (gMo_postStrong v0), (gMo_atRow v0), (gMo_heights v0), (gMo_ship v0), (gMo_lines v0), (gMo_text v0), (r1.2), (r23.2.2), (gMo_readX v0), (gMo_readStrong v0), (gMo_readRow v0), (gMo_parting v0), (gMo_wasShip v0), (gMo_wasLines v0), (gMo_worst v0), (gMo_logRow v0), (gMo_images v0), (gMo_isKept v0)) 3 1 99) (fun (r25 : Int32 × (Nat → Int32) × (Nat → Int32)) => (some ((r25.1), (r25.2.1), (r25.2.2), (gMo_readX v0), (gMo_readStrong v0))))) else (some ((r23.1), (r23.2.1), (r23.2.2), (gMo_readX v0), (gMo_readStrong v0)))))) else (if z2 = 3 then (Option.bind (f_Mo_take ((upd (upd (r1.1) 22 z7) 13 ((r1.1) 15)), (gMo_told v0), (gMo_postX v0), (gMo_postStrong v0), (gMo_atRow v0), (gMo_heights v0), (gMo_ship v0), (gMo_lines v0), (gMo_text v0), (r1.2), (gMo_readTold v0), (gMo_readX v0), (gMo_readStrong v0), (gMo_readRow v0), (gMo_parting v0), (gMo_wasShip v0), (gMo_wasLines v0), (gMo_worst v0), (gMo_logRow v0), (gMo_images v0), (gMo_isKept v0)) 4 0 50) (fun (r26 : Int32 × (Nat → Int32) × (Nat → Int32)) => (if (r26.1) ≤ 0 then (Option.bind (f_Mo_take ((r26.2.1), (gMo_told v0), (gMo_postX v0), (gMo_postStrong v0), (gMo_atRow v0), (gMo_heights v0), (gMo_ship v0), (gMo_lines v0), (gMo_text v0), (r1.2), (r26.2.2), (gMo_readX v0), (gMo_readStrong v0), (gMo_readRow v0), (gMo_parting v0), (gMo_wasShip v0), (gMo_wasLines v0), (gMo_worst v0), (gMo_logRow v0), (gMo_images v0), (gMo_isKept v0)) 5 0 99) (fun (r28 : Int32 × (Nat → Int32) × (Nat → Int32)) => (some ((r28.1), (r28.2.1), (r28.2.2), (gMo_readX v0), (gMo_readStrong v0))))) else (some ((r26.1), (r26.2.1), (r26.2.2), (gMo_readX v0), (gMo_readStrong v0)))))) else (if z2 = 4 then (Option.bind (f_Mo_take ((upd (upd (r1.1) 22 z7) 13 ((r1.1) 15)), (gMo_told v0), (gMo_postX v0), (gMo_postStrong v0), (gMo_atRow v0), (gMo_heights v0), (gMo_ship v0), (gMo_lines v0), (gMo_text v0), (r1.2), (gMo_readTold v0), (gMo_readX v0), (gMo_readStrong v0), (gMo_readRow v0), (gMo_parting v0), (gMo_wasShip v0), (gMo_wasLines v0), (gMo_worst v0), (gMo_logRow v0), (gMo_images v0), (gMo_isKept v0)) 6 0 99) (fun (r29 : Int32 × (Nat → Int32) × (Nat → Int32)) => (some ((r29.1), (r29.2.1), (r29.2.2), (gMo_readX v0), (gMo_readStrong v0))))) else (if z2 = 5 then (Option.bind (f_Mo_take ((upd (upd (r1.1) 22 z7) 13 ((r1.1) 15)), (gMo_told v0), (gMo_postX v0), (gMo_postStrong v0), (gMo_atRow v0), (gMo_heights v0), (gMo_ship v0), (gMo_lines v0), (gMo_text v0), (r1.2), (gMo_readTold v0), (gMo_readX v0), (gMo_readStrong v0), (gMo_readRow v0), (gMo_parting v0), (gMo_wasShip v0), (gMo_wasLines v0), (gMo_worst v0), (gMo_logRow v0), (gMo_images v0), (gMo_isKept v0)) 7 0 50) (fun (r30 : Int32 × (Nat → Int32) × (Nat → Int32)) => (Option.bind (if (r30.1) ≤ 0 then (Option.bind (f_Mo_take ((r30.2.1), (gMo_told v0), (gMo_postX v0), (gMo_postStrong v0), (gMo_atRow v0), (gMo_heights v0), (gMo_ship v0), (gMo_lines v0), (gMo_text v0), (r1.2), (r30.2.2), (gMo_readX v0), (gMo_readStrong v0), (gMo_readRow v0), (gMo_parting v0), (gMo_wasShip v0), (gMo_wasLines v0), (gMo_worst v0), (gMo_logRow v0), (gMo_images v0), (gMo_isKept v0)) 8 0 50) (fun (r34 : Int32 × (Nat → Int32) × (Nat → Int32)) => (some ((r34.1), (r34.2.1), (r34.2.2))))) else (some ((r30.1), (r30.2.1), (r30.2.2)))) (fun (w31 : Int32 × (Nat → Int32) × (Nat → Int32)) => (if (w31.1) ≤ 0 then (Option.bind (f_Mo_take ((w31.2.1), (gMo_told v0), (gMo_postX v0), (gMo_postStrong v0), (gMo_atRow v0), (gMo_heights v0), (gMo_ship v0), (gMo_lines v0), (gMo_text v0), (r1.2), (w31.2.2), (gMo_readX v0), (gMo_readStrong v0), (gMo_readRow v0), (gMo_parting v0), (gMo_wasShip v0), (gMo_wasLines v0), (gMo_worst v0), (gMo_logRow v0), (gMo_images v0), (gMo_isKept v0)) 9 0 50) (fun (r36 : Int32 × (Nat → Int32) × (Nat → Int32)) => (some ((r36.1), (r36.2.1), (r36.2.2), (gMo_readX v0), (gMo_readStrong v0))))) else (some ((w31.1), (w31.2.1), (w31.2.2), (gMo_readX v0), (gMo_readStrong v0)))))))) else (if z2 = 6 then (Option.bind (f_Mo_take ((upd (upd (r1.1) 22 z7) 13 ((r1.1) 15)), (gMo_told v0), (gMo_postX v0), (gMo_postStrong v0), (gMo_atRow v0), (gMo_heights v0), (gMo_ship v0), (gMo_lines v0), (gMo_text v0), (r1.2), (gMo_readTold v0), (gMo_readX v0), (gMo_readStrong v0), (gMo_readRow v0), (gMo_parting v0), (gMo_wasShip v0), (gMo_wasLines v0), (gMo_worst v0), (gMo_logRow v0), (gMo_images v0), (gMo_isKept v0)) 10 0 99) (fun (r37 : Int32 × (Nat → Int32) × (Nat → Int32)) => (some ((r37.1), (r37.2.1), (r37.2.2), (gMo_readX v0), (gMo_readStrong v0))))) else (if z2 = 7 then (Option.bind (f_Mo_take ((upd (upd (r1.1) 22 z7) 13 ((r1.1) 15)), (gMo_told v0), (gMo_postX v0), (gMo_postStrong v0), (gMo_atRow v0), (gMo_heights v0), (gMo_ship v0), (gMo_lines v0), (gMo_text v0), (r1.2), (gMo_readTold v0), (gMo_readX v0), (gMo_readStrong v0), (gMo_readRow v0), (gMo_parting v0), (gMo_wasShip v0), (gMo_wasLines v0), (gMo_worst v0), (gMo_logRow v0), (gMo_images v0), (gMo_isKept v0)) 11 1 99) (fun (r38 : Int32 × (Nat → Int32) × (Nat → Int32)) => (some ((r38.1), (r38.2.1), (r38.2.2), (gMo_readX v0), (gMo_readStrong v0))))) else (if z2 = 8 then (Option.bind (f_Mo_take ((upd (upd (r1.1) 22 z7) 13 ((r1.1) 15)), (gMo_told v0), (gMo_postX v0), (gMo_postStrong v0), (gMo_atRow v0), (gMo_heights v0), (gMo_ship v0), (gMo_lines v0), (gMo_text v0), (r1.2), (gMo_readTold v0), (gMo_readX v0), (gMo_readStrong v0), (gMo_readRow v0), (gMo_parting v0), (gMo_wasShip v0), (gMo_wasLines v0), (gMo_worst v0), (gMo_logRow v0), (gMo_images v0), (gMo_isKept v0)) 12 0 999) (fun (r39 : Int32 × (Nat → Int32) × (Nat → Int32)) => (some ((r39.1), (r39.2.1), (r39.2.2), (gMo_readX v0), (gMo_readStrong v0))))) else (Option.bind (f_Mo_take ((upd (upd (r1.1) 22 z7) 13 ((r1.1) 15)), (gMo_told v0), (gMo_postX v0), (gMo_postStrong v0), (gMo_atRow v0), (gMo_heights v0), (gMo_ship v0), (gMo_lines v0), (gMo_text v0), (r1.2), (gMo_readTold v0), (gMo_readX v0), (gMo_readStrong v0), (gMo_readRow v0), (gMo_parting v0), (gMo_wasShip v0), (gMo_wasLines v0), (gMo_worst v0), (gMo_logRow v0), (gMo_images v0), (gMo_isKept v0)) 4 0 50) (fun (r40 : Int32 × (Nat → Int32) × (Nat → Int32)) => (if (r40.1) ≤ 0 then (Option.bind (f_Mo_take ((r40.2.1), (gMo_told v0), (gMo_postX v0), (gMo_postStrong v0), (gMo_atRow v0), (gMo_heights v0), (gMo_ship v0), (gMo_lines v0), (gMo_text v0), (r1.2), (r40.2.2), (gMo_readX v0), (gMo_readStrong v0), (gMo_readRow v0), (gMo_parting v0), (gMo_wasShip v0), (gMo_wasLines v0), (gMo_worst v0), (gMo_logRow v0), (gMo_images v0), (gMo_isKept v0)) 5 0 99) (fun (r42 : Int32 × (Nat → Int32) × (Nat → Int32)) => (some ((r42.1), (r42.2.1), (r42.2.2), (gMo_readX v0), (gMo_readStrong v0))))) else (some ((r40.1), (r40.2.1), (r40.2.2), (gMo_readX v0), (gMo_readStrong v0))))))))))))))) (fun (w8 : Int32 × (Nat → Int32) × (Nat → Int32) × (Nat → Int32) × (Nat → Int32)) => (if (w8.1) ≤ 0 then (Option.bind (f_Mo_takeStop ((w8.2.1), (gMo_told v0), (gMo_postX v0), (gMo_postStrong v0), (gMo_atRow v0), (gMo_heights v0), (gMo_ship v0), (gMo_lines v0), (gMo_text v0), (r1.2), (w8.2.2.1), (w8.2.2.2.1), (w8.2.2.2.2), (gMo_readRow v0), (gMo_parting v0), (gMo_wasShip v0), (gMo_wasLines v0), (gMo_worst v0), (gMo_logRow v0), (gMo_images v0), (gMo_isKept v0))) (fun (r44 : Int32 × (Nat → Int32)) => (some ((r44.1), (r44.2), (r1.2), (w8.2.2.1), (w8.2.2.2.1), (w8.2.2.2.2))))) else (some ((w8.1), (w8.2.1), (r1.2), (w8.2.2.1), (w8.2.2.2.1), (w8.2.2.2.2))))))))) else (if ((((r1.1) 22) >>> (z2 &&& 31)) &&& 1) = 1 then (zlet (f_Mo_fails ((r1.1), (gMo_told v0), (gMo_postX v0), (gMo_postStrong v0), (gMo_atRow v0), (gMo_heights v0), (gMo_ship v0), (gMo_lines v0), (gMo_text v0), (r1.2), (gMo_readTold v0), (gMo_readX v0), (gMo_readStrong v0), (gMo_readRow v0), (gMo_parting v0), (gMo_wasShip v0), (gMo_wasLines v0), (gMo_worst v0), (gMo_logRow v0), (gMo_images v0), (gMo_isKept v0)) 3 ((r1.1) 13)) (fun (r46 : Int32 × (Nat → Int32)) => (some ((r46.1), (r46.2), (r1.2), (gMo_readTold v0), (gMo_readX v0), (gMo_readStrong v0))))) else (zlet (((r1.1) 22) ||| (1 <<< (z2 &&& 31))) (fun (z47 : Int32) => (Option.bind (if z2 = 0 then (Option.bind (f_Mo_take ((upd (upd (r1.1) 22 z47) 13 ((r1.1) 15)), (gMo_told v0), (gMo_postX v0), (gMo_postStrong v0), (gMo_atRow v0), (gMo_heights v0), (gMo_ship v0), (gMo_lines v0), (gMo_text v0), (r1.2), (gMo_readTold v0), (gMo_readX v0), (gMo_readStrong v0), (gMo_readRow v0), (gMo_parting v0), (gMo_wasShip v0), (gMo_wasLines v0), (gMo_worst v0), (gMo_logRow v0), (gMo_images v0), (gMo_isKept v0)) 0 0 9999) (fun (r59 : Int32 × (Nat → Int32) × (Nat → Int32)) => (if (r59.1) ≤ 0 then (Option.bind (f_Mo_take ((r59.2.1), (gMo_told v0), (gMo_postX v0), (gMo_postStrong v0), (gMo_atRow v0), (gMo_heights v0), (gMo_ship v0), (gMo_lines v0), (gMo_text v0), (r1.2), (r59.2.2), (gMo_readX v0), (gMo_readStrong v0), (gMo_readRow v0), (gMo_parting v0), (gMo_wasShip v0), (gMo_wasLines v0), (gMo_worst v0), (gMo_logRow v0), (gMo_images v0), (gMo_isKept v0)) 1 (((r59.2.2) 0) + 1) 9999) (fun (r61 : Int32 × (Nat → Int32) × (Nat → Int32)) => (some ((r61.1), (r61.2.1), (r61.2.2), (gMo_readX v0), (gMo_readStrong v0))))) else (some ((r59.1), (r59.2.1), (r59.2.2), (gMo_readX v0), (gMo_readStrong v0)))))) else (if z2 = 1 then (Option.bind (f_Mo_takePost ((upd (upd (r1.1) 22 z47) 13 ((r1.1) 15)), (gMo_told v0), (gMo_postX v0), (gMo_postStrong v0), (gMo_atRow v0), (gMo_heights v0), (gMo_ship v0), (gMo_lines v0), (gMo_text v0), (r1.2), (gMo_readTold v0), (gMo_readX v0), (gMo_readStrong v0), (gMo_readRow v0), (gMo_parting v0), (gMo_wasShip v0), (gMo_wasLines v0), (gMo_worst v0), (gMo_logRow v0), (gMo_images v0), (gMo_isKept v0))) (fun (r62 : Int32 × (Nat → Int32) × (Nat → Int32) × (Nat → Int32)) => (some ((r62.1), (r62.2.1), (gMo_readTold v0), (r62.2.2.1), (r62.2.2.2))))) else (if z2 = 2 then (Option.bind (f_Mo_take ((upd (upd (r1.1) 22 z47) 13 ((r1.1) 15)), (gMo_told v0), (gMo_postX v0), (gMo_postStrong v0), (gMo_atRow v0), (gMo_heights v0), (gMo_ship v0), (gMo_lines v0), (gMo_text v0), (r1.2), (gMo_readTold v0), (gMo_readX v0), (gMo_readStrong v0), (gMo_readRow v0), (gMo_parting v0), (gMo_wasShip v0), (gMo_wasLines v0), (gMo_worst v0), (gMo_logRow v0), (gMo_images v0), (gMo_isKept v0)) 2 500 9000) (fun (r63 : Int32 × (Nat → Int32) × (Nat → Int32)) => (if (r63.1) ≤ 0 then (Option.bind (f_Mo_take ((r63.2.1), (gMo_told v0), (gMo_postX v0), (gMo_postStrong v0), (gMo_atRow v0), (gMo_heights v0), (gMo_ship v0), (gMo_lines v0), (gMo_text v0), (r1.2), (r63.2.2), (gMo_readX v0), (gMo_readStrong v0), (gMo_readRow v0), (gMo_parting v0), (gMo_wasShip v0), (gMo_wasLines v0), (gMo_worst v0), (gMo_logRow v0), (gMo_images v0), (gMo_isKept v0)) 3 1 99) (fun (r65 : Int32 × (Nat → Int32) × (Nat → Int32)) => (some ((r65.1), (r65.2.1), (r65.2.2), (gMo_readX v0), (gMo_readStrong v0))))) else (some ((r63.1), (r63.2.1), (r63.2.2), (gMo_readX v0), (gMo_readStrong v0)))))) else (if z2 = 3 then (Option.bind (f_Mo_take ((upd (upd (r1.1) 22 z47) 13 ((r1.1) 15)), (gMo_told v0), (gMo_postX v0), (gMo_postStrong v0), (gMo_atRow v0), (gMo_heights v0), (gMo_ship v0), (gMo_lines v0), (gMo_text v0), (r1.2), (gMo_readTold v0), (gMo_readX v0), (gMo_readStrong v0), (gMo_readRow v0), (gMo_parting v0), (gMo_wasShip v0), (gMo_wasLines v0), (gMo_worst v0), (gMo_logRow v0), (gMo_images v0), (gMo_isKept v0)) 4 0 50) (fun (r66 : Int32 × (Nat → Int32) × (Nat → Int32)) => (if (r66.1) ≤ 0 then (Option.bind (f_Mo_take ((r66.2.1), (gMo_told v0), (gMo_postX v0), (gMo_postStrong v0), (gMo_atRow v0), (gMo_heights v0), (gMo_ship v0), (gMo_lines v0), (gMo_text v0), (r1.2), (r66.2.2), (gMo_readX v0), (gMo_readStrong v0), (gMo_readRow v0), (gMo_parting v0), (gMo_wasShip v0), (gMo_wasLines v0), (gMo_worst v0), (gMo_logRow v0), (gMo_images v0), (gMo_isKept v0)) 5 0 99) (fun (r68 : Int32 × (Nat → Int32) × (Nat → Int32)) => (some ((r68.1), (r68.2.1), (r68.2.2), (gMo_readX v0), (gMo_readStrong v0))))) else (some ((r66.1), (r66.2.1), (r66.2.2), (gMo_readX v0), (gMo_readStrong v0)))))) else (if z2 = 4 then (Option.bind (f_Mo_take ((upd (upd (r1.1) 22 z47) 13 ((r1.1) 15)), (gMo_told v0), (gMo_postX v0), (gMo_postStrong v0), (gMo_atRow v0), (gMo_heights v0), (gMo_ship v0), (gMo_lines v0), (gMo_text v0), (r1.2), (gMo_readTold v0), (gMo_readX v0), (gMo_readStrong v0), (gMo_readRow v0), (gMo_parting v0), (gMo_wasShip v0), (gMo_wasLines v0), (gMo_worst v0), (gMo_logRow v0), (gMo_images v0), (gMo_isKept v0)) 6 0 99) (fun (r69 : Int32 × (Nat → Int32) × (Nat → Int32)) => (some ((r69.1), (r69.2.1), (r69.2.2), (gMo_readX v0), (gMo_readStrong v0))))) else (if z2 = 5 then (Option.bind (f_Mo_take ((upd (upd (r1.1) 22 z47) 13 ((r1.1) 15)), (gMo_told v0), (gMo_postX v0), (gMo_postStrong v0), (gMo_atRow v0), (gMo_heights v0), (gMo_ship v0), (gMo_lines v0), (gMo_text v0), (r1.2), (gMo_readTold v0), (gMo_readX v0), (gMo_readStrong v0), (gMo_readRow v0), (gMo_parting v0), (gMo_wasShip v0), (gMo_wasLines v0), (gMo_worst v0), (gMo_logRow v0), (gMo_images v0), (gMo_isKept v0)) 7 0 50) (fun (r70 : Int32 × (Nat → Int32) × (Nat → Int32)) => (Option.bind (if (r70.1) ≤ 0 then (Option.bind (f_Mo_take ((r70.2.1), (gMo_told v0), (gMo_postX v0), (gMo_postStrong v0), (gMo_atRow v0), (gMo_heights v0), (gMo_ship v0), (gMo_lines v0), (gMo_text v0), (r1.2), (r70.2.2), (gMo_readX v0), (gMo_readStrong v0), (gMo_readRow v0), (gMo_parting v0), (gMo_wasShip v0), (gMo_wasLines v0), (gMo_worst v0), (gMo_logRow v0), (gMo_images v0), (gMo_isKept v0)) 8 0 50) (fun (r74 : Int32 × (Nat → Int32) × (Nat → Int32)) => (some ((r74.1), (r74.2.1), (r74.2.2))))) else (some ((r70.1), (r70.2.1), (r70.2.2)))) (fun (w71 : Int32 × (Nat → Int32) × (Nat → Int32)) => (if (w71.1) ≤ 0 then (Option.bind (f_Mo_take ((w71.2.1), (gMo_told v0), (gMo_postX v0), (gMo_postStrong v0), (gMo_atRow v0), (gMo_heights v0), (gMo_ship v0), (gMo_lines v0), (gMo_text v0), (r1.2), (w71.2.2), (gMo_readX v0), (gMo_readStrong v0), (gMo_readRow v0), (gMo_parting v0), (gMo_wasShip v0), (gMo_wasLines v0), (gMo_worst v0), (gMo_logRow v0), (gMo_images v0), (gMo_isKept v0)) 9 0 50) (fun (r76 : Int32 × (Nat → Int32) × (Nat → Int32)) => (some ((r76.1), (r76.2.1), (r76.2.2), (gMo_readX v0), (gMo_readStrong v0))))) else (some ((w71.1), (w71.2.1), (w71.2.2), (gMo_readX v0), (gMo_readStrong v0)))))))) else (if z2 = 6 then (Option.bind (f_Mo_take ((upd (upd (r1.1) 22 z47) 13 ((r1.1) 15)), (gMo_told v0), (gMo_postX v0), (gMo_postStrong v0), (gMo_atRow v0), (gMo_heights v0), (gMo_ship v0), (gMo_lines v0), (gMo_text v0), (r1.2), (gMo_readTold v0), (gMo_readX v0), (gMo_readStrong v0), (gMo_readRow v0), (gMo_parting v0), (gMo_wasShip v0), (gMo_wasLines v0), (gMo_worst v0), (gMo_logRow v0), (gMo_images v0), (gMo_isKept v0)) 10 0 99) (fun (r77 : Int32 × (Nat → Int32) × (Nat → Int32)) => (some ((r77.1), (r77.2.1), (r77.2.2), (gMo_readX v0), (gMo_readStrong v0))))) else (if z2 = 7 then (Option.bind (f_Mo_take ((upd (upd (r1.1) 22 z47) 13 ((r1.1) 15)), (gMo_told v0), (gMo_postX v0), (gMo_postStrong v0), (gMo_atRow v0), (gMo_heights v0), (gMo_ship v0), (gMo_lines v0), (gMo_text v0), (r1.2), (gMo_readTold v0), (gMo_readX v0), (gMo_readStrong v0), (gMo_readRow v0), (gMo_parting v0), (gMo_wasShip v0), (gMo_wasLines v0), (gMo_worst v0), (gMo_logRow v0), (gMo_images v0), (gMo_isKept v0)) 11 1 99) (fun (r78 : Int32 × (Nat → Int32) × (Nat → Int32)) => (some ((r78.1), (r78.2.1), (r78.2.2), (gMo_readX v0), (gMo_readStrong v0))))) else (if z2 = 8 then (Option.bind (f_Mo_take ((upd (upd (r1.1) 22 z47) 13 ((r1.1) 15)), (gMo_told v0), (gMo_postX v0), (gMo_postStrong v0), (gMo_atRow v0), (gMo_heights v0), (gMo_ship v0), (gMo_lines v0), (gMo_text v0), (r1.2), (gMo_readTold v0), (gMo_readX v0), (gMo_readStrong v0), (gMo_readRow v0), (gMo_parting v0), (gMo_wasShip v0), (gMo_wasLines v0), (gMo_worst v0), (gMo_logRow v0), (gMo_images v0), (gMo_isKept v0)) 12 0 999) (fun (r79 : Int32 × (Nat → Int32) × (Nat → Int32)) => (some ((r79.1), (r79.2.1), (r79.2.2), (gMo_readX v0), (gMo_readStrong v0))))) else (Option.bind (f_Mo_take ((upd (upd (r1.1) 22 z47) 13 ((r1.1) 15)), (gMo_told v0), (gMo_postX v0), (gMo_postStrong v0), (gMo_atRow v0), (gMo_heights v0), (gMo_ship v0), (gMo_lines v0), (gMo_text v0), (r1.2), (gMo_readTold v0), (gMo_readX v0), (gMo_readStrong v0), (gMo_readRow v0), (gMo_parting v0), (gMo_wasShip v0), (gMo_wasLines v0), (gMo_worst v0), (gMo_logRow v0), (gMo_images v0), (gMo_isKept v0)) 4 0 50) (fun (r80 : Int32 × (Nat → Int32) × (Nat → Int32)) => (if (r80.1) ≤ 0 then (Option.bind (f_Mo_take ((r80.2.1), (gMo_told v0), (gMo_postX v0), (gMo_postStrong v0), (gMo_atRow v0), (gMo_heights v0), (gMo_ship v0), (gMo_lines v0), (gMo_text v0), (r1.2), (r80.2.2), (gMo_readX v0), (gMo_readStrong v0), (gMo_readRow v0), (gMo_parting v0), (gMo_wasShip v0), (gMo_wasLines v0), (gMo_worst v0), (gMo_logRow v0), (gMo_images v0), (gMo_isKept v0)) 5 0 99) (fun (r82 : Int32 × (Nat → Int32) × (Nat → Int32)) => (some ((r82.1), (r82.2.1), (r82.2.2), (gMo_readX v0), (gMo_readStrong v0))))) else (some ((r80.1), (r80.2.1), (r80.2.2), (gMo_readX v0), (gMo_readStrong v0))))))))))))))) (fun (w48 : Int32 × (Nat → Int32) × (Nat → Int32) × (Nat → Int32) × (Nat → Int32)) => (if (w48.1) ≤ 0 then (Option.bind (f_Mo_takeStop ((w48.2.1), (gMo_told v0), (gMo_postX v0), (gMo_postStrong v0), (gMo_atRow v0), (gMo_heights v0), (gMo_ship v0), (gMo_lines v0), (gMo_text v0), (r1.2), (w48.2.2.1), (w48.2.2.2.1), (w48.2.2.2.2), (gMo_readRow v0), (gMo_parting v0), (gMo_wasShip v0), (gMo_wasLines v0), (gMo_worst v0), (gMo_logRow v0), (gMo_images v0), (gMo_isKept v0))) (fun (r84 : Int32 × (Nat → Int32)) => (some ((r84.1), (r84.2), (r1.2), (w48.2.2.1), (w48.2.2.2.1), (w48.2.2.2.2))))) else (some ((w48.1), (w48.2.1), (r1.2), (w48.2.2.1), (w48.2.2.2.1), (w48.2.2.2.2)))))))))) else (zlet (f_Mo_fails ((r1.1), (gMo_told v0), (gMo_postX v0), (gMo_postStrong v0), (gMo_atRow v0), (gMo_heights v0), (gMo_ship v0), (gMo_lines v0), (gMo_text v0), (r1.2), (gMo_readTold v0), (gMo_readX v0), (gMo_readStrong v0), (gMo_readRow v0), (gMo_parting v0), (gMo_wasShip v0), (gMo_wasLines v0), (gMo_worst v0), (gMo_logRow v0), (gMo_images v0), (gMo_isKept v0)) 1 ((r1.1) 13)) (fun (r85 : Int32 × (Nat → Int32)) => (some ((r85.1), (r85.2), (r1.2), (gMo_readTold v0), (gMo_readX v0), (gMo_readStrong v0))))))))))
abbrev rm_Mo_takeClause : Room := { frames := 3, cells := 0, slots := 0, locals := 72 }
set_option maxHeartbeats 4000000 in
set_option maxRecDepth 100000 in
theorem c_Mo_takeClause (l : Launch) (g : zGl) (a0 : Nat → Nat) (o0 : Nat) (v0 : tMo)  (out : Int32 × (Nat → Int32) × Int64 × (Nat → Int32) × (Nat → Int32) × (Nat → Int32)) (hf : f_Mo_takeClause v0 = some out) : zMi l yX11_takeClause cX11_takeClause 3 rm_Mo_takeClause g [.ref (a0 o0)] (W_Mo g a0 o0 (gMo_ints v0) (gMo_told v0) (gMo_postX v0) (gMo_postStrong v0) (gMo_atRow v0) (gMo_heights v0) (gMo_ship v0) (gMo_lines v0) (gMo_text v0) (gMo_said v0) (gMo_readTold v0) (gMo_readX v0) (gMo_readStrong v0) (gMo_readRow v0) (gMo_parting v0) (gMo_wasShip v0) (gMo_wasLines v0) (gMo_worst v0) (gMo_logRow v0) (gMo_images v0) (gMo_isKept v0)) (out.1) (W_Mo g a0 o0 (out.2.1) (gMo_told v0) (gMo_postX v0) (gMo_postStrong v0) (gMo_atRow v0) (gMo_heights v0) (gMo_ship v0) (gMo_lines v0) (gMo_text v0) (out.2.2.1) (out.2.2.2.1) (out.2.2.2.2.1) (out.2.2.2.2.2) (gMo_readRow v0) (gMo_parting v0) (gMo_wasShip v0) (gMo_wasLines v0) (gMo_worst v0) (gMo_logRow v0) (gMo_images v0) (gMo_isKept v0)) := by
  refine zMi_of (lv := [(0, .ref (a0 o0))]) (by decide) (Nat.le_of_ble_eq_true rfl) rfl (fun x hl hg C hret => ?_)
  subst hl; subst hg
  rw [f_Mo_takeClause] at hf
  refine r_aload_n C eX11_takeClause_0 0 rfl rfl ?_
  obtain ⟨r1, hr1, hf⟩ := zbind hf
  refine r_V_v (ws' := W_Mo (z_g x) a0 o0 (r1.1) (gMo_told v0) (gMo_postX v0) (gMo_postStrong v0) (gMo_atRow v0) (gMo_heights v0) (gMo_ship v0) (gMo_lines v0) (gMo_text v0) (r1.2) (gMo_readTold v0) (gMo_readX v0) (gMo_readStrong v0) (gMo_readRow v0) (gMo_parting v0) (gMo_wasShip v0) (gMo_wasLines v0) (gMo_worst v0) (gMo_logRow v0) (gMo_images v0) (gMo_isKept v0)) C (c_Mo_readWord (z_l x) (z_g x) a0 o0 v0  r1 hr1) eX11_takeClause_1 MX11_154 ⟨0, 11, _, _, rfl, rfl, rfl⟩ [0, 1, 2, 3, 4, 5, 6, 7, 8, 9, 10, 11, 12, 13, 14, 15, 16, 17, 18, 19] rfl rfl rfl rfl [] rfl trivial 20 rfl rfl rfl rfl rfl rfl ?_
  refine r_aload_n C eX11_takeClause_4 0 rfl rfl ?_
  refine r_V_i (ws' := W_Mo (z_g x) a0 o0 (r1.1) (gMo_told v0) (gMo_postX v0) (gMo_postStrong v0) (gMo_atRow v0) (gMo_heights v0) (gMo_ship v0) (gMo_lines v0) (gMo_text v0) (r1.2) (gMo_readTold v0) (gMo_readX v0) (gMo_readStrong v0) (gMo_readRow v0) (gMo_parting v0) (gMo_wasShip v0) (gMo_wasLines v0) (gMo_worst v0) (gMo_logRow v0) (gMo_images v0) (gMo_isKept v0)) C (c_Mo_clauseOf (z_l x) (z_g x) a0 o0 ((r1.1), (gMo_told v0), (gMo_postX v0), (gMo_postStrong v0), (gMo_atRow v0), (gMo_heights v0), (gMo_ship v0), (gMo_lines v0), (gMo_text v0), (r1.2), (gMo_readTold v0), (gMo_readX v0), (gMo_readStrong v0), (gMo_readRow v0), (gMo_parting v0), (gMo_wasShip v0), (gMo_wasLines v0), (gMo_worst v0), (gMo_logRow v0), (gMo_images v0), (gMo_isKept v0))  _ rfl) eX11_takeClause_5 MX11_157 ⟨0, 11, _, _, rfl, rfl, rfl⟩ [0, 1, 2, 3, 4, 5, 6, 7, 8, 9, 10, 11, 12, 13, 14, 15, 16, 17, 18, 19] rfl rfl rfl rfl [] rfl trivial 20 rfl rfl rfl rfl rfl rfl ?_
  obtain ⟨z2, hz2, hf⟩ := zlet_of hf
  refine r_nami hz2 ?_
  refine r_istore_n C [(1, .int z2), (0, .ref (a0 o0))] eX11_takeClause_8 rfl (by decide) rfl ?_
  refine r_iload_n C eX11_takeClause_9 0 rfl rfl ?_
  refine r_if_ge C eX11_takeClause_10 (fun c3 => ?_) (fun c3 => ?_)
  · rw [if_pos c3] at hf
    refine r_iload_n C eX11_takeClause_23 0 rfl rfl ?_
    refine r_iconst C (v := 1) eX11_takeClause_24 (by decide) ?_
    refine r_icmp_ne C eX11_takeClause_25 (fun c4 => ?_) (fun c4 => ?_)
    · rw [if_neg c4] at hf
      refine r_aload_n C eX11_takeClause_40 1 rfl rfl ?_
      refine r_get (v := .int ((r1.1) 22)) C eX11_takeClause_41 FX11_160 0 rfl rfl ?_
      refine r_iload_n C eX11_takeClause_44 0 rfl rfl ?_
      refine r_ishr C eX11_takeClause_45 ?_
      refine r_iconst C (v := 1) eX11_takeClause_46 (by decide) ?_
      refine r_iand C eX11_takeClause_47 ?_
      refine r_iconst C (v := 1) eX11_takeClause_48 (by decide) ?_
      refine r_icmp_ne C eX11_takeClause_49 (fun c45 => ?_) (fun c45 => ?_)
      · rw [if_neg c45] at hf
        refine r_aload_n C eX11_takeClause_62 1 rfl rfl ?_
        refine r_dup C eX11_takeClause_63 rfl ?_
        refine r_get (v := .int ((r1.1) 22)) C eX11_takeClause_64 FX11_160 0 rfl rfl ?_
        refine r_iconst C (v := 1) eX11_takeClause_67 (by decide) ?_
        refine r_iload_n C eX11_takeClause_68 0 rfl rfl ?_
        refine r_ishl C eX11_takeClause_69 ?_
        refine r_ior C eX11_takeClause_70 ?_
        obtain ⟨z47, hz47, hf⟩ := zlet_of hf
        refine r_nami hz47 ?_
        refine r_put (ws' := W_Mo (z_g x) a0 o0 (upd (r1.1) 22 z47) (gMo_told v0) (gMo_postX v0) (gMo_postStrong v0) (gMo_atRow v0) (gMo_heights v0) (gMo_ship v0) (gMo_lines v0) (gMo_text v0) (r1.2) (gMo_readTold v0) (gMo_readX v0) (gMo_readStrong v0) (gMo_readRow v0) (gMo_parting v0) (gMo_wasShip v0) (gMo_wasLines v0) (gMo_worst v0) (gMo_logRow v0) (gMo_images v0) (gMo_isKept v0)) C eX11_takeClause_71 PX11_160 0 rfl rfl rfl (Nat.le_of_ble_eq_true rfl) rfl ?_
        refine r_aload_n C eX11_takeClause_74 1 rfl rfl ?_
        refine r_aload_n C eX11_takeClause_75 1 rfl rfl ?_
        refine r_get (v := .int ((r1.1) 15)) C eX11_takeClause_76 FX11_108 0 rfl rfl ?_
        refine r_put (ws' := W_Mo (z_g x) a0 o0 (upd (upd (r1.1) 22 z47) 13 ((r1.1) 15)) (gMo_told v0) (gMo_postX v0) (gMo_postStrong v0) (gMo_atRow v0) (gMo_heights v0) (gMo_ship v0) (gMo_lines v0) (gMo_text v0) (r1.2) (gMo_readTold v0) (gMo_readX v0) (gMo_readStrong v0) (gMo_readRow v0) (gMo_parting v0) (gMo_wasShip v0) (gMo_wasLines v0) (gMo_worst v0) (gMo_logRow v0) (gMo_images v0) (gMo_isKept v0)) C eX11_takeClause_79 PX11_97 0 rfl rfl rfl (Nat.le_of_ble_eq_true rfl) rfl ?_
        refine r_iconst C (v := 0) eX11_takeClause_82 (by decide) ?_
        refine r_istore_n C [(2, .int 0), (1, .int z2), (0, .ref (a0 o0))] eX11_takeClause_83 rfl (by decide) rfl ?_
        refine r_iload_n C eX11_takeClause_84 1 rfl rfl ?_
        obtain ⟨w48, hw48, hf⟩ := zbind hf
        have J49 : vV x 3 0 0 (W_Mo (z_g x) a0 o0 (w48.2.1) (gMo_told v0) (gMo_postX v0) (gMo_postStrong v0) (gMo_atRow v0) (gMo_heights v0) (gMo_ship v0) (gMo_lines v0) (gMo_text v0) (r1.2) (w48.2.2.1) (w48.2.2.2.1) (w48.2.2.2.2) (gMo_readRow v0) (gMo_parting v0) (gMo_wasShip v0) (gMo_wasLines v0) (gMo_worst v0) (gMo_logRow v0) (gMo_images v0) (gMo_isKept v0)) 342 [(0, .ref (a0 o0)), (2, .int (w48.1))] [] := by
          refine r_iload_n C eX11_takeClause_342 1 rfl rfl ?_
          refine r_if_le C eX11_takeClause_343 (fun c83 => ?_) (fun c83 => ?_)
          · rw [if_pos c83] at hf
            refine r_aload_n C eX11_takeClause_350 0 rfl rfl ?_
            obtain ⟨r84, hr84, hf⟩ := zbind hf
            refine r_V_i (ws' := W_Mo (z_g x) a0 o0 (r84.2) (gMo_told v0) (gMo_postX v0) (gMo_postStrong v0) (gMo_atRow v0) (gMo_heights v0) (gMo_ship v0) (gMo_lines v0) (gMo_text v0) (r1.2) (w48.2.2.1) (w48.2.2.2.1) (w48.2.2.2.2) (gMo_readRow v0) (gMo_parting v0) (gMo_wasShip v0) (gMo_wasLines v0) (gMo_worst v0) (gMo_logRow v0) (gMo_images v0) (gMo_isKept v0)) C (c_Mo_takeStop (z_l x) (z_g x) a0 o0 ((w48.2.1), (gMo_told v0), (gMo_postX v0), (gMo_postStrong v0), (gMo_atRow v0), (gMo_heights v0), (gMo_ship v0), (gMo_lines v0), (gMo_text v0), (r1.2), (w48.2.2.1), (w48.2.2.2.1), (w48.2.2.2.2), (gMo_readRow v0), (gMo_parting v0), (gMo_wasShip v0), (gMo_wasLines v0), (gMo_worst v0), (gMo_logRow v0), (gMo_images v0), (gMo_isKept v0))  r84 hr84) eX11_takeClause_351 MX11_170 ⟨0, 11, _, _, rfl, rfl, rfl⟩ [0, 1, 2, 3, 4, 5, 6, 7, 8, 9, 10, 11, 12, 13, 14, 15, 16, 17, 18, 19] rfl rfl rfl rfl [] rfl trivial 20 rfl rfl rfl rfl rfl rfl ?_
            obtain rfl := Option.some.inj (show some (((r84.1), (r84.2), (r1.2), (w48.2.2.1), (w48.2.2.2.1), (w48.2.2.2.2)) : Int32 × (Nat → Int32) × Int64 × (Nat → Int32) × (Nat → Int32) × (Nat → Int32)) = some _ from hf)
            exact hret _ _ _ eX11_takeClause_354
          · rw [if_neg c83] at hf
            refine r_iload_n C eX11_takeClause_346 1 rfl rfl ?_
            refine r_goto C eX11_takeClause_347 ?_
            obtain rfl := Option.some.inj (show some (((w48.1), (w48.2.1), (r1.2), (w48.2.2.1), (w48.2.2.2.1), (w48.2.2.2.2)) : Int32 × (Nat → Int32) × Int64 × (Nat → Int32) × (Nat → Int32) × (Nat → Int32)) = some _ from hf)
            exact hret _ _ _ eX11_takeClause_354
        by_cases c50 : z2 = 0
        · rw [if_pos c50] at hw48
          refine r_tabIn C (v := 0) eX11_takeClause_85 c50 51 136 ⟨by decide, rfl, by decide⟩ ?_
          refine r_aload_n C eX11_takeClause_136 2 rfl rfl ?_
          refine r_iconst C (v := 0) eX11_takeClause_137 (by decide) ?_
          refine r_iconst C (v := 0) eX11_takeClause_138 (by decide) ?_
          refine r_sipush C (v := 9999) eX11_takeClause_139 (by decide) ?_
          obtain ⟨r59, hr59, hw48⟩ := zbind hw48
          refine r_V_i (ws' := W_Mo (z_g x) a0 o0 (r59.2.1) (gMo_told v0) (gMo_postX v0) (gMo_postStrong v0) (gMo_atRow v0) (gMo_heights v0) (gMo_ship v0) (gMo_lines v0) (gMo_text v0) (r1.2) (r59.2.2) (gMo_readX v0) (gMo_readStrong v0) (gMo_readRow v0) (gMo_parting v0) (gMo_wasShip v0) (gMo_wasLines v0) (gMo_worst v0) (gMo_logRow v0) (gMo_images v0) (gMo_isKept v0)) C (c_Mo_take (z_l x) (z_g x) a0 o0 ((upd (upd (r1.1) 22 z47) 13 ((r1.1) 15)), (gMo_told v0), (gMo_postX v0), (gMo_postStrong v0), (gMo_atRow v0), (gMo_heights v0), (gMo_ship v0), (gMo_lines v0), (gMo_text v0), (r1.2), (gMo_readTold v0), (gMo_readX v0), (gMo_readStrong v0), (gMo_readRow v0), (gMo_parting v0), (gMo_wasShip v0), (gMo_wasLines v0), (gMo_worst v0), (gMo_logRow v0), (gMo_images v0), (gMo_isKept v0)) 0 0 9999 r59 hr59) eX11_takeClause_142 MX11_163 ⟨0, 11, _, _, rfl, rfl, rfl⟩ [0, 1, 2, 3, 4, 5, 6, 7, 8, 9, 10, 11, 12, 13, 14, 15, 16, 17, 18, 19] rfl rfl rfl rfl [] rfl trivial 20 rfl rfl rfl rfl rfl rfl ?_
          refine r_istore_n C [(2, .int (r59.1)), (1, .int z2), (0, .ref (a0 o0))] eX11_takeClause_145 rfl (by decide) rfl ?_
          refine r_iload_n C eX11_takeClause_146 0 rfl rfl ?_
          refine r_if_le C eX11_takeClause_147 (fun c60 => ?_) (fun c60 => ?_)
          · rw [if_pos c60] at hw48
            refine r_aload_n C eX11_takeClause_154 2 rfl rfl ?_
            refine r_iconst C (v := 1) eX11_takeClause_155 (by decide) ?_
            refine r_aload_n C eX11_takeClause_156 2 rfl rfl ?_
            refine r_get (v := .ref (a0 (o0 + 9))) C eX11_takeClause_157 FX11_39 0 rfl rfl ?_
            refine r_iconst C (v := 0) eX11_takeClause_160 (by decide) ?_
            refine r_ialdN C eX11_takeClause_161 9 0 (by decide) rfl ((r59.2.2) 0) rfl ?_
            refine r_iconst C (v := 1) eX11_takeClause_162 (by decide) ?_
            refine r_iadd C eX11_takeClause_163 ?_
            refine r_sipush C (v := 9999) eX11_takeClause_164 (by decide) ?_
            obtain ⟨r61, hr61, hw48⟩ := zbind hw48
            refine r_V_i (ws' := W_Mo (z_g x) a0 o0 (r61.2.1) (gMo_told v0) (gMo_postX v0) (gMo_postStrong v0) (gMo_atRow v0) (gMo_heights v0) (gMo_ship v0) (gMo_lines v0) (gMo_text v0) (r1.2) (r61.2.2) (gMo_readX v0) (gMo_readStrong v0) (gMo_readRow v0) (gMo_parting v0) (gMo_wasShip v0) (gMo_wasLines v0) (gMo_worst v0) (gMo_logRow v0) (gMo_images v0) (gMo_isKept v0)) C (c_Mo_take (z_l x) (z_g x) a0 o0 ((r59.2.1), (gMo_told v0), (gMo_postX v0), (gMo_postStrong v0), (gMo_atRow v0), (gMo_heights v0), (gMo_ship v0), (gMo_lines v0), (gMo_text v0), (r1.2), (r59.2.2), (gMo_readX v0), (gMo_readStrong v0), (gMo_readRow v0), (gMo_parting v0), (gMo_wasShip v0), (gMo_wasLines v0), (gMo_worst v0), (gMo_logRow v0), (gMo_images v0), (gMo_isKept v0)) 1 (((r59.2.2) 0) + 1) 9999 r61 hr61) eX11_takeClause_167 MX11_163 ⟨0, 11, _, _, rfl, rfl, rfl⟩ [0, 1, 2, 3, 4, 5, 6, 7, 8, 9, 10, 11, 12, 13, 14, 15, 16, 17, 18, 19] rfl rfl rfl rfl [] rfl trivial 20 rfl rfl rfl rfl rfl rfl ?_
            refine r_istore_n C [(2, .int (r61.1)), (1, .int z2), (0, .ref (a0 o0))] eX11_takeClause_170 rfl (by decide) rfl ?_
            refine r_goto C eX11_takeClause_171 ?_
            obtain rfl := Option.some.inj hw48
            refine r_sub (lv' := [(0, .ref (a0 o0)), (2, .int (r61.1))]) [2, 0] rfl ?_
            exact J49 
          · rw [if_neg c60] at hw48
            refine r_iload_n C eX11_takeClause_150 0 rfl rfl ?_
            refine r_goto C eX11_takeClause_151 ?_
            refine r_istore_n C [(2, .int (r59.1)), (1, .int z2), (0, .ref (a0 o0))] eX11_takeClause_170 rfl (by decide) rfl ?_
            refine r_goto C eX11_takeClause_171 ?_
            obtain rfl := Option.some.inj hw48
            refine r_sub (lv' := [(0, .ref (a0 o0)), (2, .int (r59.1))]) [2, 0] rfl ?_
            exact J49 
        rw [if_neg c50] at hw48
        by_cases c51 : z2 = 1
        · rw [if_pos c51] at hw48
          refine r_tabIn C (v := 1) eX11_takeClause_85 c51 89 174 ⟨by decide, rfl, by decide⟩ ?_
          refine r_aload_n C eX11_takeClause_174 2 rfl rfl ?_
          obtain ⟨r62, hr62, hw48⟩ := zbind hw48
          refine r_V_i (ws' := W_Mo (z_g x) a0 o0 (r62.2.1) (gMo_told v0) (gMo_postX v0) (gMo_postStrong v0) (gMo_atRow v0) (gMo_heights v0) (gMo_ship v0) (gMo_lines v0) (gMo_text v0) (r1.2) (gMo_readTold v0) (r62.2.2.1) (r62.2.2.2) (gMo_readRow v0) (gMo_parting v0) (gMo_wasShip v0) (gMo_wasLines v0) (gMo_worst v0) (gMo_logRow v0) (gMo_images v0) (gMo_isKept v0)) C (c_Mo_takePost (z_l x) (z_g x) a0 o0 ((upd (upd (r1.1) 22 z47) 13 ((r1.1) 15)), (gMo_told v0), (gMo_postX v0), (gMo_postStrong v0), (gMo_atRow v0), (gMo_heights v0), (gMo_ship v0), (gMo_lines v0), (gMo_text v0), (r1.2), (gMo_readTold v0), (gMo_readX v0), (gMo_readStrong v0), (gMo_readRow v0), (gMo_parting v0), (gMo_wasShip v0), (gMo_wasLines v0), (gMo_worst v0), (gMo_logRow v0), (gMo_images v0), (gMo_isKept v0))  r62 hr62) eX11_takeClause_175 MX11_167 ⟨0, 11, _, _, rfl, rfl, rfl⟩ [0, 1, 2, 3, 4, 5, 6, 7, 8, 9, 10, 11, 12, 13, 14, 15, 16, 17, 18, 19] rfl rfl rfl rfl [] rfl trivial 20 rfl rfl rfl rfl rfl rfl ?_
          refine r_istore_n C [(2, .int (r62.1)), (1, .int z2), (0, .ref (a0 o0))] eX11_takeClause_178 rfl (by decide) rfl ?_
          refine r_goto C eX11_takeClause_179 ?_
          obtain rfl := Option.some.inj hw48
          refine r_sub (lv' := [(0, .ref (a0 o0)), (2, .int (r62.1))]) [2, 0] rfl ?_
          exact J49 
        rw [if_neg c51] at hw48
        by_cases c52 : z2 = 2
        · rw [if_pos c52] at hw48
          refine r_tabIn C (v := 2) eX11_takeClause_85 c52 97 182 ⟨by decide, rfl, by decide⟩ ?_
          refine r_aload_n C eX11_takeClause_182 2 rfl rfl ?_
          refine r_iconst C (v := 2) eX11_takeClause_183 (by decide) ?_
          refine r_sipush C (v := 500) eX11_takeClause_184 (by decide) ?_
          refine r_sipush C (v := 9000) eX11_takeClause_187 (by decide) ?_
          obtain ⟨r63, hr63, hw48⟩ := zbind hw48
          refine r_V_i (ws' := W_Mo (z_g x) a0 o0 (r63.2.1) (gMo_told v0) (gMo_postX v0) (gMo_postStrong v0) (gMo_atRow v0) (gMo_heights v0) (gMo_ship v0) (gMo_lines v0) (gMo_text v0) (r1.2) (r63.2.2) (gMo_readX v0) (gMo_readStrong v0) (gMo_readRow v0) (gMo_parting v0) (gMo_wasShip v0) (gMo_wasLines v0) (gMo_worst v0) (gMo_logRow v0) (gMo_images v0) (gMo_isKept v0)) C (c_Mo_take (z_l x) (z_g x) a0 o0 ((upd (upd (r1.1) 22 z47) 13 ((r1.1) 15)), (gMo_told v0), (gMo_postX v0), (gMo_postStrong v0), (gMo_atRow v0), (gMo_heights v0), (gMo_ship v0), (gMo_lines v0), (gMo_text v0), (r1.2), (gMo_readTold v0), (gMo_readX v0), (gMo_readStrong v0), (gMo_readRow v0), (gMo_parting v0), (gMo_wasShip v0), (gMo_wasLines v0), (gMo_worst v0), (gMo_logRow v0), (gMo_images v0), (gMo_isKept v0)) 2 500 9000 r63 hr63) eX11_takeClause_190 MX11_163 ⟨0, 11, _, _, rfl, rfl, rfl⟩ [0, 1, 2, 3, 4, 5, 6, 7, 8, 9, 10, 11, 12, 13, 14, 15, 16, 17, 18, 19] rfl rfl rfl rfl [] rfl trivial 20 rfl rfl rfl rfl rfl rfl ?_
          refine r_istore_n C [(2, .int (r63.1)), (1, .int z2), (0, .ref (a0 o0))] eX11_takeClause_193 rfl (by decide) rfl ?_
          refine r_iload_n C eX11_takeClause_194 0 rfl rfl ?_
          refine r_if_le C eX11_takeClause_195 (fun c64 => ?_) (fun c64 => ?_)
          · rw [if_pos c64] at hw48
            refine r_aload_n C eX11_takeClause_202 2 rfl rfl ?_
            refine r_iconst C (v := 3) eX11_takeClause_203 (by decide) ?_
            refine r_iconst C (v := 1) eX11_takeClause_204 (by decide) ?_
            refine r_bipush C (v := 99) eX11_takeClause_205 (by decide) ?_
            obtain ⟨r65, hr65, hw48⟩ := zbind hw48
            refine r_V_i (ws' := W_Mo (z_g x) a0 o0 (r65.2.1) (gMo_told v0) (gMo_postX v0) (gMo_postStrong v0) (gMo_atRow v0) (gMo_heights v0) (gMo_ship v0) (gMo_lines v0) (gMo_text v0) (r1.2) (r65.2.2) (gMo_readX v0) (gMo_readStrong v0) (gMo_readRow v0) (gMo_parting v0) (gMo_wasShip v0) (gMo_wasLines v0) (gMo_worst v0) (gMo_logRow v0) (gMo_images v0) (gMo_isKept v0)) C (c_Mo_take (z_l x) (z_g x) a0 o0 ((r63.2.1), (gMo_told v0), (gMo_postX v0), (gMo_postStrong v0), (gMo_atRow v0), (gMo_heights v0), (gMo_ship v0), (gMo_lines v0), (gMo_text v0), (r1.2), (r63.2.2), (gMo_readX v0), (gMo_readStrong v0), (gMo_readRow v0), (gMo_parting v0), (gMo_wasShip v0), (gMo_wasLines v0), (gMo_worst v0), (gMo_logRow v0), (gMo_images v0), (gMo_isKept v0)) 3 1 99 r65 hr65) eX11_takeClause_207 MX11_163 ⟨0, 11, _, _, rfl, rfl, rfl⟩ [0, 1, 2, 3, 4, 5, 6, 7, 8, 9, 10, 11, 12, 13, 14, 15, 16, 17, 18, 19] rfl rfl rfl rfl [] rfl trivial 20 rfl rfl rfl rfl rfl rfl ?_
            refine r_istore_n C [(2, .int (r65.1)), (1, .int z2), (0, .ref (a0 o0))] eX11_takeClause_210 rfl (by decide) rfl ?_
            refine r_goto C eX11_takeClause_211 ?_
            obtain rfl := Option.some.inj hw48
            refine r_sub (lv' := [(0, .ref (a0 o0)), (2, .int (r65.1))]) [2, 0] rfl ?_
            exact J49 
          · rw [if_neg c64] at hw48
            refine r_iload_n C eX11_takeClause_198 0 rfl rfl ?_
            refine r_goto C eX11_takeClause_199 ?_
            refine r_istore_n C [(2, .int (r63.1)), (1, .int z2), (0, .ref (a0 o0))] eX11_takeClause_210 rfl (by decide) rfl ?_
            refine r_goto C eX11_takeClause_211 ?_
            obtain rfl := Option.some.inj hw48
            refine r_sub (lv' := [(0, .ref (a0 o0)), (2, .int (r63.1))]) [2, 0] rfl ?_
            exact J49 
        rw [if_neg c52] at hw48
        by_cases c53 : z2 = 3
        · rw [if_pos c53] at hw48
          refine r_tabIn C (v := 3) eX11_takeClause_85 c53 231 316 ⟨by decide, rfl, by decide⟩ ?_
          refine r_aload_n C eX11_takeClause_316 2 rfl rfl ?_
          refine r_iconst C (v := 4) eX11_takeClause_317 (by decide) ?_
          refine r_iconst C (v := 0) eX11_takeClause_318 (by decide) ?_
          refine r_bipush C (v := 50) eX11_takeClause_319 (by decide) ?_
          obtain ⟨r66, hr66, hw48⟩ := zbind hw48
          refine r_V_i (ws' := W_Mo (z_g x) a0 o0 (r66.2.1) (gMo_told v0) (gMo_postX v0) (gMo_postStrong v0) (gMo_atRow v0) (gMo_heights v0) (gMo_ship v0) (gMo_lines v0) (gMo_text v0) (r1.2) (r66.2.2) (gMo_readX v0) (gMo_readStrong v0) (gMo_readRow v0) (gMo_parting v0) (gMo_wasShip v0) (gMo_wasLines v0) (gMo_worst v0) (gMo_logRow v0) (gMo_images v0) (gMo_isKept v0)) C (c_Mo_take (z_l x) (z_g x) a0 o0 ((upd (upd (r1.1) 22 z47) 13 ((r1.1) 15)), (gMo_told v0), (gMo_postX v0), (gMo_postStrong v0), (gMo_atRow v0), (gMo_heights v0), (gMo_ship v0), (gMo_lines v0), (gMo_text v0), (r1.2), (gMo_readTold v0), (gMo_readX v0), (gMo_readStrong v0), (gMo_readRow v0), (gMo_parting v0), (gMo_wasShip v0), (gMo_wasLines v0), (gMo_worst v0), (gMo_logRow v0), (gMo_images v0), (gMo_isKept v0)) 4 0 50 r66 hr66) eX11_takeClause_321 MX11_163 ⟨0, 11, _, _, rfl, rfl, rfl⟩ [0, 1, 2, 3, 4, 5, 6, 7, 8, 9, 10, 11, 12, 13, 14, 15, 16, 17, 18, 19] rfl rfl rfl rfl [] rfl trivial 20 rfl rfl rfl rfl rfl rfl ?_
          refine r_istore_n C [(2, .int (r66.1)), (1, .int z2), (0, .ref (a0 o0))] eX11_takeClause_324 rfl (by decide) rfl ?_
          refine r_iload_n C eX11_takeClause_325 0 rfl rfl ?_
          refine r_if_le C eX11_takeClause_326 (fun c67 => ?_) (fun c67 => ?_)
          · rw [if_pos c67] at hw48
            refine r_aload_n C eX11_takeClause_333 2 rfl rfl ?_
            refine r_iconst C (v := 5) eX11_takeClause_334 (by decide) ?_
            refine r_iconst C (v := 0) eX11_takeClause_335 (by decide) ?_
            refine r_bipush C (v := 99) eX11_takeClause_336 (by decide) ?_
            obtain ⟨r68, hr68, hw48⟩ := zbind hw48
            refine r_V_i (ws' := W_Mo (z_g x) a0 o0 (r68.2.1) (gMo_told v0) (gMo_postX v0) (gMo_postStrong v0) (gMo_atRow v0) (gMo_heights v0) (gMo_ship v0) (gMo_lines v0) (gMo_text v0) (r1.2) (r68.2.2) (gMo_readX v0) (gMo_readStrong v0) (gMo_readRow v0) (gMo_parting v0) (gMo_wasShip v0) (gMo_wasLines v0) (gMo_worst v0) (gMo_logRow v0) (gMo_images v0) (gMo_isKept v0)) C (c_Mo_take (z_l x) (z_g x) a0 o0 ((r66.2.1), (gMo_told v0), (gMo_postX v0), (gMo_postStrong v0), (gMo_atRow v0), (gMo_heights v0), (gMo_ship v0), (gMo_lines v0), (gMo_text v0), (r1.2), (r66.2.2), (gMo_readX v0), (gMo_readStrong v0), (gMo_readRow v0), (gMo_parting v0), (gMo_wasShip v0), (gMo_wasLines v0), (gMo_worst v0), (gMo_logRow v0), (gMo_images v0), (gMo_isKept v0)) 5 0 99 r68 hr68) eX11_takeClause_338 MX11_163 ⟨0, 11, _, _, rfl, rfl, rfl⟩ [0, 1, 2, 3, 4, 5, 6, 7, 8, 9, 10, 11, 12, 13, 14, 15, 16, 17, 18, 19] rfl rfl rfl rfl [] rfl trivial 20 rfl rfl rfl rfl rfl rfl ?_
            refine r_istore_n C [(2, .int (r68.1)), (1, .int z2), (0, .ref (a0 o0))] eX11_takeClause_341 rfl (by decide) rfl ?_
            obtain rfl := Option.some.inj hw48
            refine r_sub (lv' := [(0, .ref (a0 o0)), (2, .int (r68.1))]) [2, 0] rfl ?_
            exact J49 
          · rw [if_neg c67] at hw48
            refine r_iload_n C eX11_takeClause_329 0 rfl rfl ?_
            refine r_goto C eX11_takeClause_330 ?_
            refine r_istore_n C [(2, .int (r66.1)), (1, .int z2), (0, .ref (a0 o0))] eX11_takeClause_341 rfl (by decide) rfl ?_
            obtain rfl := Option.some.inj hw48
            refine r_sub (lv' := [(0, .ref (a0 o0)), (2, .int (r66.1))]) [2, 0] rfl ?_
            exact J49 
        rw [if_neg c53] at hw48
        by_cases c54 : z2 = 4
        · rw [if_pos c54] at hw48
          refine r_tabIn C (v := 4) eX11_takeClause_85 c54 129 214 ⟨by decide, rfl, by decide⟩ ?_
          refine r_aload_n C eX11_takeClause_214 2 rfl rfl ?_
          refine r_bipush C (v := 6) eX11_takeClause_215 (by decide) ?_
          refine r_iconst C (v := 0) eX11_takeClause_217 (by decide) ?_
          refine r_bipush C (v := 99) eX11_takeClause_218 (by decide) ?_
          obtain ⟨r69, hr69, hw48⟩ := zbind hw48
          refine r_V_i (ws' := W_Mo (z_g x) a0 o0 (r69.2.1) (gMo_told v0) (gMo_postX v0) (gMo_postStrong v0) (gMo_atRow v0) (gMo_heights v0) (gMo_ship v0) (gMo_lines v0) (gMo_text v0) (r1.2) (r69.2.2) (gMo_readX v0) (gMo_readStrong v0) (gMo_readRow v0) (gMo_parting v0) (gMo_wasShip v0) (gMo_wasLines v0) (gMo_worst v0) (gMo_logRow v0) (gMo_images v0) (gMo_isKept v0)) C (c_Mo_take (z_l x) (z_g x) a0 o0 ((upd (upd (r1.1) 22 z47) 13 ((r1.1) 15)), (gMo_told v0), (gMo_postX v0), (gMo_postStrong v0), (gMo_atRow v0), (gMo_heights v0), (gMo_ship v0), (gMo_lines v0), (gMo_text v0), (r1.2), (gMo_readTold v0), (gMo_readX v0), (gMo_readStrong v0), (gMo_readRow v0), (gMo_parting v0), (gMo_wasShip v0), (gMo_wasLines v0), (gMo_worst v0), (gMo_logRow v0), (gMo_images v0), (gMo_isKept v0)) 6 0 99 r69 hr69) eX11_takeClause_220 MX11_163 ⟨0, 11, _, _, rfl, rfl, rfl⟩ [0, 1, 2, 3, 4, 5, 6, 7, 8, 9, 10, 11, 12, 13, 14, 15, 16, 17, 18, 19] rfl rfl rfl rfl [] rfl trivial 20 rfl rfl rfl rfl rfl rfl ?_
          refine r_istore_n C [(2, .int (r69.1)), (1, .int z2), (0, .ref (a0 o0))] eX11_takeClause_223 rfl (by decide) rfl ?_
          refine r_goto C eX11_takeClause_224 ?_
          obtain rfl := Option.some.inj hw48
          refine r_sub (lv' := [(0, .ref (a0 o0)), (2, .int (r69.1))]) [2, 0] rfl ?_
          exact J49 
        rw [if_neg c54] at hw48
        by_cases c55 : z2 = 5
        · rw [if_pos c55] at hw48
          refine r_tabIn C (v := 5) eX11_takeClause_85 c55 142 227 ⟨by decide, rfl, by decide⟩ ?_
          refine r_aload_n C eX11_takeClause_227 2 rfl rfl ?_
          refine r_bipush C (v := 7) eX11_takeClause_228 (by decide) ?_
          refine r_iconst C (v := 0) eX11_takeClause_230 (by decide) ?_
          refine r_bipush C (v := 50) eX11_takeClause_231 (by decide) ?_
          obtain ⟨r70, hr70, hw48⟩ := zbind hw48
          refine r_V_i (ws' := W_Mo (z_g x) a0 o0 (r70.2.1) (gMo_told v0) (gMo_postX v0) (gMo_postStrong v0) (gMo_atRow v0) (gMo_heights v0) (gMo_ship v0) (gMo_lines v0) (gMo_text v0) (r1.2) (r70.2.2) (gMo_readX v0) (gMo_readStrong v0) (gMo_readRow v0) (gMo_parting v0) (gMo_wasShip v0) (gMo_wasLines v0) (gMo_worst v0) (gMo_logRow v0) (gMo_images v0) (gMo_isKept v0)) C (c_Mo_take (z_l x) (z_g x) a0 o0 ((upd (upd (r1.1) 22 z47) 13 ((r1.1) 15)), (gMo_told v0), (gMo_postX v0), (gMo_postStrong v0), (gMo_atRow v0), (gMo_heights v0), (gMo_ship v0), (gMo_lines v0), (gMo_text v0), (r1.2), (gMo_readTold v0), (gMo_readX v0), (gMo_readStrong v0), (gMo_readRow v0), (gMo_parting v0), (gMo_wasShip v0), (gMo_wasLines v0), (gMo_worst v0), (gMo_logRow v0), (gMo_images v0), (gMo_isKept v0)) 7 0 50 r70 hr70) eX11_takeClause_233 MX11_163 ⟨0, 11, _, _, rfl, rfl, rfl⟩ [0, 1, 2, 3, 4, 5, 6, 7, 8, 9, 10, 11, 12, 13, 14, 15, 16, 17, 18, 19] rfl rfl rfl rfl [] rfl trivial 20 rfl rfl rfl rfl rfl rfl ?_
          refine r_istore_n C [(2, .int (r70.1)), (1, .int z2), (0, .ref (a0 o0))] eX11_takeClause_236 rfl (by decide) rfl ?_
          refine r_iload_n C eX11_takeClause_237 0 rfl rfl ?_
          obtain ⟨w71, hw71, hw48⟩ := zbind hw48
          have J72 : vV x 3 0 0 (W_Mo (z_g x) a0 o0 (w71.2.1) (gMo_told v0) (gMo_postX v0) (gMo_postStrong v0) (gMo_atRow v0) (gMo_heights v0) (gMo_ship v0) (gMo_lines v0) (gMo_text v0) (r1.2) (w71.2.2) (gMo_readX v0) (gMo_readStrong v0) (gMo_readRow v0) (gMo_parting v0) (gMo_wasShip v0) (gMo_wasLines v0) (gMo_worst v0) (gMo_logRow v0) (gMo_images v0) (gMo_isKept v0)) 254 [(0, .ref (a0 o0))] [.int (w71.1)] := by
            refine r_istore_n C [(2, .int (w71.1)), (0, .ref (a0 o0))] eX11_takeClause_254 rfl (by decide) rfl ?_
            refine r_iload_n C eX11_takeClause_255 0 rfl rfl ?_
            refine r_if_le C eX11_takeClause_256 (fun c75 => ?_) (fun c75 => ?_)
            · rw [if_pos c75] at hw48
              refine r_aload_n C eX11_takeClause_263 1 rfl rfl ?_
              refine r_bipush C (v := 9) eX11_takeClause_264 (by decide) ?_
              refine r_iconst C (v := 0) eX11_takeClause_266 (by decide) ?_
              refine r_bipush C (v := 50) eX11_takeClause_267 (by decide) ?_
              obtain ⟨r76, hr76, hw48⟩ := zbind hw48
              refine r_V_i (ws' := W_Mo (z_g x) a0 o0 (r76.2.1) (gMo_told v0) (gMo_postX v0) (gMo_postStrong v0) (gMo_atRow v0) (gMo_heights v0) (gMo_ship v0) (gMo_lines v0) (gMo_text v0) (r1.2) (r76.2.2) (gMo_readX v0) (gMo_readStrong v0) (gMo_readRow v0) (gMo_parting v0) (gMo_wasShip v0) (gMo_wasLines v0) (gMo_worst v0) (gMo_logRow v0) (gMo_images v0) (gMo_isKept v0)) C (c_Mo_take (z_l x) (z_g x) a0 o0 ((w71.2.1), (gMo_told v0), (gMo_postX v0), (gMo_postStrong v0), (gMo_atRow v0), (gMo_heights v0), (gMo_ship v0), (gMo_lines v0), (gMo_text v0), (r1.2), (w71.2.2), (gMo_readX v0), (gMo_readStrong v0), (gMo_readRow v0), (gMo_parting v0), (gMo_wasShip v0), (gMo_wasLines v0), (gMo_worst v0), (gMo_logRow v0), (gMo_images v0), (gMo_isKept v0)) 9 0 50 r76 hr76) eX11_takeClause_269 MX11_163 ⟨0, 11, _, _, rfl, rfl, rfl⟩ [0, 1, 2, 3, 4, 5, 6, 7, 8, 9, 10, 11, 12, 13, 14, 15, 16, 17, 18, 19] rfl rfl rfl rfl [] rfl trivial 20 rfl rfl rfl rfl rfl rfl ?_
              refine r_istore_n C [(2, .int (r76.1)), (0, .ref (a0 o0))] eX11_takeClause_272 rfl (by decide) rfl ?_
              refine r_goto C eX11_takeClause_273 ?_
              obtain rfl := Option.some.inj hw48
              refine r_sub (lv' := [(0, .ref (a0 o0)), (2, .int (r76.1))]) [1, 0] rfl ?_
              exact J49 
            · rw [if_neg c75] at hw48
              refine r_iload_n C eX11_takeClause_259 0 rfl rfl ?_
              refine r_goto C eX11_takeClause_260 ?_
              refine r_istore_n C [(2, .int (w71.1)), (0, .ref (a0 o0))] eX11_takeClause_272 rfl (by decide) rfl ?_
              refine r_goto C eX11_takeClause_273 ?_
              obtain rfl := Option.some.inj hw48
              refine r_sub (lv' := [(0, .ref (a0 o0)), (2, .int (w71.1))]) [1, 0] rfl ?_
              exact J49 
          refine r_if_le C eX11_takeClause_238 (fun c73 => ?_) (fun c73 => ?_)
          · rw [if_pos c73] at hw71
            refine r_aload_n C eX11_takeClause_245 2 rfl rfl ?_
            refine r_bipush C (v := 8) eX11_takeClause_246 (by decide) ?_
            refine r_iconst C (v := 0) eX11_takeClause_248 (by decide) ?_
            refine r_bipush C (v := 50) eX11_takeClause_249 (by decide) ?_
            obtain ⟨r74, hr74, hw71⟩ := zbind hw71
            refine r_V_i (ws' := W_Mo (z_g x) a0 o0 (r74.2.1) (gMo_told v0) (gMo_postX v0) (gMo_postStrong v0) (gMo_atRow v0) (gMo_heights v0) (gMo_ship v0) (gMo_lines v0) (gMo_text v0) (r1.2) (r74.2.2) (gMo_readX v0) (gMo_readStrong v0) (gMo_readRow v0) (gMo_parting v0) (gMo_wasShip v0) (gMo_wasLines v0) (gMo_worst v0) (gMo_logRow v0) (gMo_images v0) (gMo_isKept v0)) C (c_Mo_take (z_l x) (z_g x) a0 o0 ((r70.2.1), (gMo_told v0), (gMo_postX v0), (gMo_postStrong v0), (gMo_atRow v0), (gMo_heights v0), (gMo_ship v0), (gMo_lines v0), (gMo_text v0), (r1.2), (r70.2.2), (gMo_readX v0), (gMo_readStrong v0), (gMo_readRow v0), (gMo_parting v0), (gMo_wasShip v0), (gMo_wasLines v0), (gMo_worst v0), (gMo_logRow v0), (gMo_images v0), (gMo_isKept v0)) 8 0 50 r74 hr74) eX11_takeClause_251 MX11_163 ⟨0, 11, _, _, rfl, rfl, rfl⟩ [0, 1, 2, 3, 4, 5, 6, 7, 8, 9, 10, 11, 12, 13, 14, 15, 16, 17, 18, 19] rfl rfl rfl rfl [] rfl trivial 20 rfl rfl rfl rfl rfl rfl ?_
            obtain rfl := Option.some.inj hw71
            refine r_sub (lv' := [(0, .ref (a0 o0))]) [2] rfl ?_
            exact J72 
          · rw [if_neg c73] at hw71
            refine r_iload_n C eX11_takeClause_241 0 rfl rfl ?_
            refine r_goto C eX11_takeClause_242 ?_
            obtain rfl := Option.some.inj hw71
            refine r_sub (lv' := [(0, .ref (a0 o0))]) [2] rfl ?_
            exact J72 
        rw [if_neg c55] at hw48
        by_cases c56 : z2 = 6
        · rw [if_pos c56] at hw48
          refine r_tabIn C (v := 6) eX11_takeClause_85 c56 191 276 ⟨by decide, rfl, by decide⟩ ?_
          refine r_aload_n C eX11_takeClause_276 2 rfl rfl ?_
          refine r_bipush C (v := 10) eX11_takeClause_277 (by decide) ?_
          refine r_iconst C (v := 0) eX11_takeClause_279 (by decide) ?_
          refine r_bipush C (v := 99) eX11_takeClause_280 (by decide) ?_
          obtain ⟨r77, hr77, hw48⟩ := zbind hw48
          refine r_V_i (ws' := W_Mo (z_g x) a0 o0 (r77.2.1) (gMo_told v0) (gMo_postX v0) (gMo_postStrong v0) (gMo_atRow v0) (gMo_heights v0) (gMo_ship v0) (gMo_lines v0) (gMo_text v0) (r1.2) (r77.2.2) (gMo_readX v0) (gMo_readStrong v0) (gMo_readRow v0) (gMo_parting v0) (gMo_wasShip v0) (gMo_wasLines v0) (gMo_worst v0) (gMo_logRow v0) (gMo_images v0) (gMo_isKept v0)) C (c_Mo_take (z_l x) (z_g x) a0 o0 ((upd (upd (r1.1) 22 z47) 13 ((r1.1) 15)), (gMo_told v0), (gMo_postX v0), (gMo_postStrong v0), (gMo_atRow v0), (gMo_heights v0), (gMo_ship v0), (gMo_lines v0), (gMo_text v0), (r1.2), (gMo_readTold v0), (gMo_readX v0), (gMo_readStrong v0), (gMo_readRow v0), (gMo_parting v0), (gMo_wasShip v0), (gMo_wasLines v0), (gMo_worst v0), (gMo_logRow v0), (gMo_images v0), (gMo_isKept v0)) 10 0 99 r77 hr77) eX11_takeClause_282 MX11_163 ⟨0, 11, _, _, rfl, rfl, rfl⟩ [0, 1, 2, 3, 4, 5, 6, 7, 8, 9, 10, 11, 12, 13, 14, 15, 16, 17, 18, 19] rfl rfl rfl rfl [] rfl trivial 20 rfl rfl rfl rfl rfl rfl ?_
          refine r_istore_n C [(2, .int (r77.1)), (1, .int z2), (0, .ref (a0 o0))] eX11_takeClause_285 rfl (by decide) rfl ?_
          refine r_goto C eX11_takeClause_286 ?_
          obtain rfl := Option.some.inj hw48
          refine r_sub (lv' := [(0, .ref (a0 o0)), (2, .int (r77.1))]) [2, 0] rfl ?_
          exact J49 
        rw [if_neg c56] at hw48
        by_cases c57 : z2 = 7
        · rw [if_pos c57] at hw48
          refine r_tabIn C (v := 7) eX11_takeClause_85 c57 204 289 ⟨by decide, rfl, by decide⟩ ?_
          refine r_aload_n C eX11_takeClause_289 2 rfl rfl ?_
          refine r_bipush C (v := 11) eX11_takeClause_290 (by decide) ?_
          refine r_iconst C (v := 1) eX11_takeClause_292 (by decide) ?_
          refine r_bipush C (v := 99) eX11_takeClause_293 (by decide) ?_
          obtain ⟨r78, hr78, hw48⟩ := zbind hw48
          refine r_V_i (ws' := W_Mo (z_g x) a0 o0 (r78.2.1) (gMo_told v0) (gMo_postX v0) (gMo_postStrong v0) (gMo_atRow v0) (gMo_heights v0) (gMo_ship v0) (gMo_lines v0) (gMo_text v0) (r1.2) (r78.2.2) (gMo_readX v0) (gMo_readStrong v0) (gMo_readRow v0) (gMo_parting v0) (gMo_wasShip v0) (gMo_wasLines v0) (gMo_worst v0) (gMo_logRow v0) (gMo_images v0) (gMo_isKept v0)) C (c_Mo_take (z_l x) (z_g x) a0 o0 ((upd (upd (r1.1) 22 z47) 13 ((r1.1) 15)), (gMo_told v0), (gMo_postX v0), (gMo_postStrong v0), (gMo_atRow v0), (gMo_heights v0), (gMo_ship v0), (gMo_lines v0), (gMo_text v0), (r1.2), (gMo_readTold v0), (gMo_readX v0), (gMo_readStrong v0), (gMo_readRow v0), (gMo_parting v0), (gMo_wasShip v0), (gMo_wasLines v0), (gMo_worst v0), (gMo_logRow v0), (gMo_images v0), (gMo_isKept v0)) 11 1 99 r78 hr78) eX11_takeClause_295 MX11_163 ⟨0, 11, _, _, rfl, rfl, rfl⟩ [0, 1, 2, 3, 4, 5, 6, 7, 8, 9, 10, 11, 12, 13, 14, 15, 16, 17, 18, 19] rfl rfl rfl rfl [] rfl trivial 20 rfl rfl rfl rfl rfl rfl ?_
          refine r_istore_n C [(2, .int (r78.1)), (1, .int z2), (0, .ref (a0 o0))] eX11_takeClause_298 rfl (by decide) rfl ?_
          refine r_goto C eX11_takeClause_299 ?_
          obtain rfl := Option.some.inj hw48
          refine r_sub (lv' := [(0, .ref (a0 o0)), (2, .int (r78.1))]) [2, 0] rfl ?_
          exact J49 
        rw [if_neg c57] at hw48
        by_cases c58 : z2 = 8
        · rw [if_pos c58] at hw48
          refine r_tabIn C (v := 8) eX11_takeClause_85 c58 217 302 ⟨by decide, rfl, by decide⟩ ?_
          refine r_aload_n C eX11_takeClause_302 2 rfl rfl ?_
          refine r_bipush C (v := 12) eX11_takeClause_303 (by decide) ?_
          refine r_iconst C (v := 0) eX11_takeClause_305 (by decide) ?_
          refine r_sipush C (v := 999) eX11_takeClause_306 (by decide) ?_
          obtain ⟨r79, hr79, hw48⟩ := zbind hw48
          refine r_V_i (ws' := W_Mo (z_g x) a0 o0 (r79.2.1) (gMo_told v0) (gMo_postX v0) (gMo_postStrong v0) (gMo_atRow v0) (gMo_heights v0) (gMo_ship v0) (gMo_lines v0) (gMo_text v0) (r1.2) (r79.2.2) (gMo_readX v0) (gMo_readStrong v0) (gMo_readRow v0) (gMo_parting v0) (gMo_wasShip v0) (gMo_wasLines v0) (gMo_worst v0) (gMo_logRow v0) (gMo_images v0) (gMo_isKept v0)) C (c_Mo_take (z_l x) (z_g x) a0 o0 ((upd (upd (r1.1) 22 z47) 13 ((r1.1) 15)), (gMo_told v0), (gMo_postX v0), (gMo_postStrong v0), (gMo_atRow v0), (gMo_heights v0), (gMo_ship v0), (gMo_lines v0), (gMo_text v0), (r1.2), (gMo_readTold v0), (gMo_readX v0), (gMo_readStrong v0), (gMo_readRow v0), (gMo_parting v0), (gMo_wasShip v0), (gMo_wasLines v0), (gMo_worst v0), (gMo_logRow v0), (gMo_images v0), (gMo_isKept v0)) 12 0 999 r79 hr79) eX11_takeClause_309 MX11_163 ⟨0, 11, _, _, rfl, rfl, rfl⟩ [0, 1, 2, 3, 4, 5, 6, 7, 8, 9, 10, 11, 12, 13, 14, 15, 16, 17, 18, 19] rfl rfl rfl rfl [] rfl trivial 20 rfl rfl rfl rfl rfl rfl ?_
          refine r_istore_n C [(2, .int (r79.1)), (1, .int z2), (0, .ref (a0 o0))] eX11_takeClause_312 rfl (by decide) rfl ?_
          refine r_goto C eX11_takeClause_313 ?_
          obtain rfl := Option.some.inj hw48
          refine r_sub (lv' := [(0, .ref (a0 o0)), (2, .int (r79.1))]) [2, 0] rfl ?_
          exact J49 
        rw [if_neg c58] at hw48
        refine r_tabOut C eX11_takeClause_85 (fun i h1 h2 => by rcases (show i = 0 ∨ i = 1 ∨ i = 2 ∨ i = 3 ∨ i = 4 ∨ i = 5 ∨ i = 6 ∨ i = 7 ∨ i = 8 by omega) with rfl | rfl | rfl | rfl | rfl | rfl | rfl | rfl | rfl <;> assumption) 316 (by decide) ?_
        refine r_aload_n C eX11_takeClause_316 2 rfl rfl ?_
        refine r_iconst C (v := 4) eX11_takeClause_317 (by decide) ?_
        refine r_iconst C (v := 0) eX11_takeClause_318 (by decide) ?_
        refine r_bipush C (v := 50) eX11_takeClause_319 (by decide) ?_
        obtain ⟨r80, hr80, hw48⟩ := zbind hw48
        refine r_V_i (ws' := W_Mo (z_g x) a0 o0 (r80.2.1) (gMo_told v0) (gMo_postX v0) (gMo_postStrong v0) (gMo_atRow v0) (gMo_heights v0) (gMo_ship v0) (gMo_lines v0) (gMo_text v0) (r1.2) (r80.2.2) (gMo_readX v0) (gMo_readStrong v0) (gMo_readRow v0) (gMo_parting v0) (gMo_wasShip v0) (gMo_wasLines v0) (gMo_worst v0) (gMo_logRow v0) (gMo_images v0) (gMo_isKept v0)) C (c_Mo_take (z_l x) (z_g x) a0 o0 ((upd (upd (r1.1) 22 z47) 13 ((r1.1) 15)), (gMo_told v0), (gMo_postX v0), (gMo_postStrong v0), (gMo_atRow v0), (gMo_heights v0), (gMo_ship v0), (gMo_lines v0), (gMo_text v0), (r1.2), (gMo_readTold v0), (gMo_readX v0), (gMo_readStrong v0), (gMo_readRow v0), (gMo_parting v0), (gMo_wasShip v0), (gMo_wasLines v0), (gMo_worst v0), (gMo_logRow v0), (gMo_images v0), (gMo_isKept v0)) 4 0 50 r80 hr80) eX11_takeClause_321 MX11_163 ⟨0, 11, _, _, rfl, rfl, rfl⟩ [0, 1, 2, 3, 4, 5, 6, 7, 8, 9, 10, 11, 12, 13, 14, 15, 16, 17, 18, 19] rfl rfl rfl rfl [] rfl trivial 20 rfl rfl rfl rfl rfl rfl ?_
        refine r_istore_n C [(2, .int (r80.1)), (1, .int z2), (0, .ref (a0 o0))] eX11_takeClause_324 rfl (by decide) rfl ?_
        refine r_iload_n C eX11_takeClause_325 0 rfl rfl ?_
        refine r_if_le C eX11_takeClause_326 (fun c81 => ?_) (fun c81 => ?_)
        · rw [if_pos c81] at hw48
          refine r_aload_n C eX11_takeClause_333 2 rfl rfl ?_
          refine r_iconst C (v := 5) eX11_takeClause_334 (by decide) ?_
          refine r_iconst C (v := 0) eX11_takeClause_335 (by decide) ?_
          refine r_bipush C (v := 99) eX11_takeClause_336 (by decide) ?_
          obtain ⟨r82, hr82, hw48⟩ := zbind hw48
          refine r_V_i (ws' := W_Mo (z_g x) a0 o0 (r82.2.1) (gMo_told v0) (gMo_postX v0) (gMo_postStrong v0) (gMo_atRow v0) (gMo_heights v0) (gMo_ship v0) (gMo_lines v0) (gMo_text v0) (r1.2) (r82.2.2) (gMo_readX v0) (gMo_readStrong v0) (gMo_readRow v0) (gMo_parting v0) (gMo_wasShip v0) (gMo_wasLines v0) (gMo_worst v0) (gMo_logRow v0) (gMo_images v0) (gMo_isKept v0)) C (c_Mo_take (z_l x) (z_g x) a0 o0 ((r80.2.1), (gMo_told v0), (gMo_postX v0), (gMo_postStrong v0), (gMo_atRow v0), (gMo_heights v0), (gMo_ship v0), (gMo_lines v0), (gMo_text v0), (r1.2), (r80.2.2), (gMo_readX v0), (gMo_readStrong v0), (gMo_readRow v0), (gMo_parting v0), (gMo_wasShip v0), (gMo_wasLines v0), (gMo_worst v0), (gMo_logRow v0), (gMo_images v0), (gMo_isKept v0)) 5 0 99 r82 hr82) eX11_takeClause_338 MX11_163 ⟨0, 11, _, _, rfl, rfl, rfl⟩ [0, 1, 2, 3, 4, 5, 6, 7, 8, 9, 10, 11, 12, 13, 14, 15, 16, 17, 18, 19] rfl rfl rfl rfl [] rfl trivial 20 rfl rfl rfl rfl rfl rfl ?_
          refine r_istore_n C [(2, .int (r82.1)), (1, .int z2), (0, .ref (a0 o0))] eX11_takeClause_341 rfl (by decide) rfl ?_
          obtain rfl := Option.some.inj hw48
          refine r_sub (lv' := [(0, .ref (a0 o0)), (2, .int (r82.1))]) [2, 0] rfl ?_
          exact J49 
        · rw [if_neg c81] at hw48
          refine r_iload_n C eX11_takeClause_329 0 rfl rfl ?_
          refine r_goto C eX11_takeClause_330 ?_
          refine r_istore_n C [(2, .int (r80.1)), (1, .int z2), (0, .ref (a0 o0))] eX11_takeClause_341 rfl (by decide) rfl ?_
          obtain rfl := Option.some.inj hw48
          refine r_sub (lv' := [(0, .ref (a0 o0)), (2, .int (r80.1))]) [2, 0] rfl ?_
          exact J49 
      · rw [if_pos c45] at hf
        refine r_aload_n C eX11_takeClause_52 1 rfl rfl ?_
        refine r_iconst C (v := 3) eX11_takeClause_53 (by decide) ?_
        refine r_aload_n C eX11_takeClause_54 1 rfl rfl ?_
        refine r_get (v := .int ((r1.1) 13)) C eX11_takeClause_55 FX11_97 0 rfl rfl ?_
        obtain ⟨r46, hr46, hf⟩ := zlet_of hf
        refine r_V_i (ws' := W_Mo (z_g x) a0 o0 (r46.2) (gMo_told v0) (gMo_postX v0) (gMo_postStrong v0) (gMo_atRow v0) (gMo_heights v0) (gMo_ship v0) (gMo_lines v0) (gMo_text v0) (r1.2) (gMo_readTold v0) (gMo_readX v0) (gMo_readStrong v0) (gMo_readRow v0) (gMo_parting v0) (gMo_wasShip v0) (gMo_wasLines v0) (gMo_worst v0) (gMo_logRow v0) (gMo_images v0) (gMo_isKept v0)) C (c_Mo_fails (z_l x) (z_g x) a0 o0 ((r1.1), (gMo_told v0), (gMo_postX v0), (gMo_postStrong v0), (gMo_atRow v0), (gMo_heights v0), (gMo_ship v0), (gMo_lines v0), (gMo_text v0), (r1.2), (gMo_readTold v0), (gMo_readX v0), (gMo_readStrong v0), (gMo_readRow v0), (gMo_parting v0), (gMo_wasShip v0), (gMo_wasLines v0), (gMo_worst v0), (gMo_logRow v0), (gMo_images v0), (gMo_isKept v0)) 3 ((r1.1) 13) r46 hr46) eX11_takeClause_58 MX11_127 ⟨0, 11, _, _, rfl, rfl, rfl⟩ [0, 1, 2, 3, 4, 5, 6, 7, 8, 9, 10, 11, 12, 13, 14, 15, 16, 17, 18, 19] rfl rfl rfl rfl [] rfl trivial 20 rfl rfl rfl rfl rfl rfl ?_
        obtain rfl := Option.some.inj (show some (((r46.1), (r46.2), (r1.2), (gMo_readTold v0), (gMo_readX v0), (gMo_readStrong v0)) : Int32 × (Nat → Int32) × Int64 × (Nat → Int32) × (Nat → Int32) × (Nat → Int32)) = some _ from hf)
        exact hret _ _ _ eX11_takeClause_61
    · rw [if_pos c4] at hf
      refine r_aload_n C eX11_takeClause_28 1 rfl rfl ?_
      refine r_get (v := .int ((r1.1) 19)) C eX11_takeClause_29 FX11_141 0 rfl rfl ?_
      refine r_bipush C (v := 12) eX11_takeClause_32 (by decide) ?_
      refine r_icmp_ne C eX11_takeClause_34 (fun c5 => ?_) (fun c5 => ?_)
      · rw [if_neg c5] at hf
        refine r_aload_n C eX11_takeClause_62 1 rfl rfl ?_
        refine r_dup C eX11_takeClause_63 rfl ?_
        refine r_get (v := .int ((r1.1) 22)) C eX11_takeClause_64 FX11_160 0 rfl rfl ?_
        refine r_iconst C (v := 1) eX11_takeClause_67 (by decide) ?_
        refine r_iload_n C eX11_takeClause_68 0 rfl rfl ?_
        refine r_ishl C eX11_takeClause_69 ?_
        refine r_ior C eX11_takeClause_70 ?_
        obtain ⟨z7, hz7, hf⟩ := zlet_of hf
        refine r_nami hz7 ?_
        refine r_put (ws' := W_Mo (z_g x) a0 o0 (upd (r1.1) 22 z7) (gMo_told v0) (gMo_postX v0) (gMo_postStrong v0) (gMo_atRow v0) (gMo_heights v0) (gMo_ship v0) (gMo_lines v0) (gMo_text v0) (r1.2) (gMo_readTold v0) (gMo_readX v0) (gMo_readStrong v0) (gMo_readRow v0) (gMo_parting v0) (gMo_wasShip v0) (gMo_wasLines v0) (gMo_worst v0) (gMo_logRow v0) (gMo_images v0) (gMo_isKept v0)) C eX11_takeClause_71 PX11_160 0 rfl rfl rfl (Nat.le_of_ble_eq_true rfl) rfl ?_
        refine r_aload_n C eX11_takeClause_74 1 rfl rfl ?_
        refine r_aload_n C eX11_takeClause_75 1 rfl rfl ?_
        refine r_get (v := .int ((r1.1) 15)) C eX11_takeClause_76 FX11_108 0 rfl rfl ?_
        refine r_put (ws' := W_Mo (z_g x) a0 o0 (upd (upd (r1.1) 22 z7) 13 ((r1.1) 15)) (gMo_told v0) (gMo_postX v0) (gMo_postStrong v0) (gMo_atRow v0) (gMo_heights v0) (gMo_ship v0) (gMo_lines v0) (gMo_text v0) (r1.2) (gMo_readTold v0) (gMo_readX v0) (gMo_readStrong v0) (gMo_readRow v0) (gMo_parting v0) (gMo_wasShip v0) (gMo_wasLines v0) (gMo_worst v0) (gMo_logRow v0) (gMo_images v0) (gMo_isKept v0)) C eX11_takeClause_79 PX11_97 0 rfl rfl rfl (Nat.le_of_ble_eq_true rfl) rfl ?_
        refine r_iconst C (v := 0) eX11_takeClause_82 (by decide) ?_
        refine r_istore_n C [(2, .int 0), (1, .int z2), (0, .ref (a0 o0))] eX11_takeClause_83 rfl (by decide) rfl ?_
        refine r_iload_n C eX11_takeClause_84 1 rfl rfl ?_
        obtain ⟨w8, hw8, hf⟩ := zbind hf
        have J9 : vV x 3 0 0 (W_Mo (z_g x) a0 o0 (w8.2.1) (gMo_told v0) (gMo_postX v0) (gMo_postStrong v0) (gMo_atRow v0) (gMo_heights v0) (gMo_ship v0) (gMo_lines v0) (gMo_text v0) (r1.2) (w8.2.2.1) (w8.2.2.2.1) (w8.2.2.2.2) (gMo_readRow v0) (gMo_parting v0) (gMo_wasShip v0) (gMo_wasLines v0) (gMo_worst v0) (gMo_logRow v0) (gMo_images v0) (gMo_isKept v0)) 342 [(0, .ref (a0 o0)), (2, .int (w8.1))] [] := by
          refine r_iload_n C eX11_takeClause_342 1 rfl rfl ?_
          refine r_if_le C eX11_takeClause_343 (fun c43 => ?_) (fun c43 => ?_)
          · rw [if_pos c43] at hf
            refine r_aload_n C eX11_takeClause_350 0 rfl rfl ?_
            obtain ⟨r44, hr44, hf⟩ := zbind hf
            refine r_V_i (ws' := W_Mo (z_g x) a0 o0 (r44.2) (gMo_told v0) (gMo_postX v0) (gMo_postStrong v0) (gMo_atRow v0) (gMo_heights v0) (gMo_ship v0) (gMo_lines v0) (gMo_text v0) (r1.2) (w8.2.2.1) (w8.2.2.2.1) (w8.2.2.2.2) (gMo_readRow v0) (gMo_parting v0) (gMo_wasShip v0) (gMo_wasLines v0) (gMo_worst v0) (gMo_logRow v0) (gMo_images v0) (gMo_isKept v0)) C (c_Mo_takeStop (z_l x) (z_g x) a0 o0 ((w8.2.1), (gMo_told v0), (gMo_postX v0), (gMo_postStrong v0), (gMo_atRow v0), (gMo_heights v0), (gMo_ship v0), (gMo_lines v0), (gMo_text v0), (r1.2), (w8.2.2.1), (w8.2.2.2.1), (w8.2.2.2.2), (gMo_readRow v0), (gMo_parting v0), (gMo_wasShip v0), (gMo_wasLines v0), (gMo_worst v0), (gMo_logRow v0), (gMo_images v0), (gMo_isKept v0))  r44 hr44) eX11_takeClause_351 MX11_170 ⟨0, 11, _, _, rfl, rfl, rfl⟩ [0, 1, 2, 3, 4, 5, 6, 7, 8, 9, 10, 11, 12, 13, 14, 15, 16, 17, 18, 19] rfl rfl rfl rfl [] rfl trivial 20 rfl rfl rfl rfl rfl rfl ?_
            obtain rfl := Option.some.inj (show some (((r44.1), (r44.2), (r1.2), (w8.2.2.1), (w8.2.2.2.1), (w8.2.2.2.2)) : Int32 × (Nat → Int32) × Int64 × (Nat → Int32) × (Nat → Int32) × (Nat → Int32)) = some _ from hf)
            exact hret _ _ _ eX11_takeClause_354
          · rw [if_neg c43] at hf
            refine r_iload_n C eX11_takeClause_346 1 rfl rfl ?_
            refine r_goto C eX11_takeClause_347 ?_
            obtain rfl := Option.some.inj (show some (((w8.1), (w8.2.1), (r1.2), (w8.2.2.1), (w8.2.2.2.1), (w8.2.2.2.2)) : Int32 × (Nat → Int32) × Int64 × (Nat → Int32) × (Nat → Int32) × (Nat → Int32)) = some _ from hf)
            exact hret _ _ _ eX11_takeClause_354
        by_cases c10 : z2 = 0
        · rw [if_pos c10] at hw8
          refine r_tabIn C (v := 0) eX11_takeClause_85 c10 51 136 ⟨by decide, rfl, by decide⟩ ?_
          refine r_aload_n C eX11_takeClause_136 2 rfl rfl ?_
          refine r_iconst C (v := 0) eX11_takeClause_137 (by decide) ?_
          refine r_iconst C (v := 0) eX11_takeClause_138 (by decide) ?_
          refine r_sipush C (v := 9999) eX11_takeClause_139 (by decide) ?_
          obtain ⟨r19, hr19, hw8⟩ := zbind hw8
          refine r_V_i (ws' := W_Mo (z_g x) a0 o0 (r19.2.1) (gMo_told v0) (gMo_postX v0) (gMo_postStrong v0) (gMo_atRow v0) (gMo_heights v0) (gMo_ship v0) (gMo_lines v0) (gMo_text v0) (r1.2) (r19.2.2) (gMo_readX v0) (gMo_readStrong v0) (gMo_readRow v0) (gMo_parting v0) (gMo_wasShip v0) (gMo_wasLines v0) (gMo_worst v0) (gMo_logRow v0) (gMo_images v0) (gMo_isKept v0)) C (c_Mo_take (z_l x) (z_g x) a0 o0 ((upd (upd (r1.1) 22 z7) 13 ((r1.1) 15)), (gMo_told v0), (gMo_postX v0), (gMo_postStrong v0), (gMo_atRow v0), (gMo_heights v0), (gMo_ship v0), (gMo_lines v0), (gMo_text v0), (r1.2), (gMo_readTold v0), (gMo_readX v0), (gMo_readStrong v0), (gMo_readRow v0), (gMo_parting v0), (gMo_wasShip v0), (gMo_wasLines v0), (gMo_worst v0), (gMo_logRow v0), (gMo_images v0), (gMo_isKept v0)) 0 0 9999 r19 hr19) eX11_takeClause_142 MX11_163 ⟨0, 11, _, _, rfl, rfl, rfl⟩ [0, 1, 2, 3, 4, 5, 6, 7, 8, 9, 10, 11, 12, 13, 14, 15, 16, 17, 18, 19] rfl rfl rfl rfl [] rfl trivial 20 rfl rfl rfl rfl rfl rfl ?_
          refine r_istore_n C [(2, .int (r19.1)), (1, .int z2), (0, .ref (a0 o0))] eX11_takeClause_145 rfl (by decide) rfl ?_
          refine r_iload_n C eX11_takeClause_146 0 rfl rfl ?_
          refine r_if_le C eX11_takeClause_147 (fun c20 => ?_) (fun c20 => ?_)
          · rw [if_pos c20] at hw8
            refine r_aload_n C eX11_takeClause_154 2 rfl rfl ?_
            refine r_iconst C (v := 1) eX11_takeClause_155 (by decide) ?_
            refine r_aload_n C eX11_takeClause_156 2 rfl rfl ?_
            refine r_get (v := .ref (a0 (o0 + 9))) C eX11_takeClause_157 FX11_39 0 rfl rfl ?_
            refine r_iconst C (v := 0) eX11_takeClause_160 (by decide) ?_
            refine r_ialdN C eX11_takeClause_161 9 0 (by decide) rfl ((r19.2.2) 0) rfl ?_
            refine r_iconst C (v := 1) eX11_takeClause_162 (by decide) ?_
            refine r_iadd C eX11_takeClause_163 ?_
            refine r_sipush C (v := 9999) eX11_takeClause_164 (by decide) ?_
            obtain ⟨r21, hr21, hw8⟩ := zbind hw8
            refine r_V_i (ws' := W_Mo (z_g x) a0 o0 (r21.2.1) (gMo_told v0) (gMo_postX v0) (gMo_postStrong v0) (gMo_atRow v0) (gMo_heights v0) (gMo_ship v0) (gMo_lines v0) (gMo_text v0) (r1.2) (r21.2.2) (gMo_readX v0) (gMo_readStrong v0) (gMo_readRow v0) (gMo_parting v0) (gMo_wasShip v0) (gMo_wasLines v0) (gMo_worst v0) (gMo_logRow v0) (gMo_images v0) (gMo_isKept v0)) C (c_Mo_take (z_l x) (z_g x) a0 o0 ((r19.2.1), (gMo_told v0), (gMo_postX v0), (gMo_postStrong v0), (gMo_atRow v0), (gMo_heights v0), (gMo_ship v0), (gMo_lines v0), (gMo_text v0), (r1.2), (r19.2.2), (gMo_readX v0), (gMo_readStrong v0), (gMo_readRow v0), (gMo_parting v0), (gMo_wasShip v0), (gMo_wasLines v0), (gMo_worst v0), (gMo_logRow v0), (gMo_images v0), (gMo_isKept v0)) 1 (((r19.2.2) 0) + 1) 9999 r21 hr21) eX11_takeClause_167 MX11_163 ⟨0, 11, _, _, rfl, rfl, rfl⟩ [0, 1, 2, 3, 4, 5, 6, 7, 8, 9, 10, 11, 12, 13, 14, 15, 16, 17, 18, 19] rfl rfl rfl rfl [] rfl trivial 20 rfl rfl rfl rfl rfl rfl ?_
            refine r_istore_n C [(2, .int (r21.1)), (1, .int z2), (0, .ref (a0 o0))] eX11_takeClause_170 rfl (by decide) rfl ?_
            refine r_goto C eX11_takeClause_171 ?_
            obtain rfl := Option.some.inj hw8
            refine r_sub (lv' := [(0, .ref (a0 o0)), (2, .int (r21.1))]) [2, 0] rfl ?_
            exact J9 
          · rw [if_neg c20] at hw8
            refine r_iload_n C eX11_takeClause_150 0 rfl rfl ?_
            refine r_goto C eX11_takeClause_151 ?_
            refine r_istore_n C [(2, .int (r19.1)), (1, .int z2), (0, .ref (a0 o0))] eX11_takeClause_170 rfl (by decide) rfl ?_
            refine r_goto C eX11_takeClause_171 ?_
            obtain rfl := Option.some.inj hw8
            refine r_sub (lv' := [(0, .ref (a0 o0)), (2, .int (r19.1))]) [2, 0] rfl ?_
            exact J9 
        rw [if_neg c10] at hw8
        by_cases c11 : z2 = 1
        · rw [if_pos c11] at hw8
          refine r_tabIn C (v := 1) eX11_takeClause_85 c11 89 174 ⟨by decide, rfl, by decide⟩ ?_
          refine r_aload_n C eX11_takeClause_174 2 rfl rfl ?_
          obtain ⟨r22, hr22, hw8⟩ := zbind hw8
          refine r_V_i (ws' := W_Mo (z_g x) a0 o0 (r22.2.1) (gMo_told v0) (gMo_postX v0) (gMo_postStrong v0) (gMo_atRow v0) (gMo_heights v0) (gMo_ship v0) (gMo_lines v0) (gMo_text v0) (r1.2) (gMo_readTold v0) (r22.2.2.1) (r22.2.2.2) (gMo_readRow v0) (gMo_parting v0) (gMo_wasShip v0) (gMo_wasLines v0) (gMo_worst v0) (gMo_logRow v0) (gMo_images v0) (gMo_isKept v0)) C (c_Mo_takePost (z_l x) (z_g x) a0 o0 ((upd (upd (r1.1) 22 z7) 13 ((r1.1) 15)), (gMo_told v0), (gMo_postX v0), (gMo_postStrong v0), (gMo_atRow v0), (gMo_heights v0), (gMo_ship v0), (gMo_lines v0), (gMo_text v0), (r1.2), (gMo_readTold v0), (gMo_readX v0), (gMo_readStrong v0), (gMo_readRow v0), (gMo_parting v0), (gMo_wasShip v0), (gMo_wasLines v0), (gMo_worst v0), (gMo_logRow v0), (gMo_images v0), (gMo_isKept v0))  r22 hr22) eX11_takeClause_175 MX11_167 ⟨0, 11, _, _, rfl, rfl, rfl⟩ [0, 1, 2, 3, 4, 5, 6, 7, 8, 9, 10, 11, 12, 13, 14, 15, 16, 17, 18, 19] rfl rfl rfl rfl [] rfl trivial 20 rfl rfl rfl rfl rfl rfl ?_
          refine r_istore_n C [(2, .int (r22.1)), (1, .int z2), (0, .ref (a0 o0))] eX11_takeClause_178 rfl (by decide) rfl ?_
          refine r_goto C eX11_takeClause_179 ?_
          obtain rfl := Option.some.inj hw8
          refine r_sub (lv' := [(0, .ref (a0 o0)), (2, .int (r22.1))]) [2, 0] rfl ?_
          exact J9 
        rw [if_neg c11] at hw8
        by_cases c12 : z2 = 2
        · rw [if_pos c12] at hw8
          refine r_tabIn C (v := 2) eX11_takeClause_85 c12 97 182 ⟨by decide, rfl, by decide⟩ ?_
          refine r_aload_n C eX11_takeClause_182 2 rfl rfl ?_
          refine r_iconst C (v := 2) eX11_takeClause_183 (by decide) ?_
          refine r_sipush C (v := 500) eX11_takeClause_184 (by decide) ?_
          refine r_sipush C (v := 9000) eX11_takeClause_187 (by decide) ?_
          obtain ⟨r23, hr23, hw8⟩ := zbind hw8
          refine r_V_i (ws' := W_Mo (z_g x) a0 o0 (r23.2.1) (gMo_told v0) (gMo_postX v0) (gMo_postStrong v0) (gMo_atRow v0) (gMo_heights v0) (gMo_ship v0) (gMo_lines v0) (gMo_text v0) (r1.2) (r23.2.2) (gMo_readX v0) (gMo_readStrong v0) (gMo_readRow v0) (gMo_parting v0) (gMo_wasShip v0) (gMo_wasLines v0) (gMo_worst v0) (gMo_logRow v0) (gMo_images v0) (gMo_isKept v0)) C (c_Mo_take (z_l x) (z_g x) a0 o0 ((upd (upd (r1.1) 22 z7) 13 ((r1.1) 15)), (gMo_told v0), (gMo_postX v0), (gMo_postStrong v0), (gMo_atRow v0), (gMo_heights v0), (gMo_ship v0), (gMo_lines v0), (gMo_text v0), (r1.2), (gMo_readTold v0), (gMo_readX v0), (gMo_readStrong v0), (gMo_readRow v0), (gMo_parting v0), (gMo_wasShip v0), (gMo_wasLines v0), (gMo_worst v0), (gMo_logRow v0), (gMo_images v0), (gMo_isKept v0)) 2 500 9000 r23 hr23) eX11_takeClause_190 MX11_163 ⟨0, 11, _, _, rfl, rfl, rfl⟩ [0, 1, 2, 3, 4, 5, 6, 7, 8, 9, 10, 11, 12, 13, 14, 15, 16, 17, 18, 19] rfl rfl rfl rfl [] rfl trivial 20 rfl rfl rfl rfl rfl rfl ?_
          refine r_istore_n C [(2, .int (r23.1)), (1, .int z2), (0, .ref (a0 o0))] eX11_takeClause_193 rfl (by decide) rfl ?_
          refine r_iload_n C eX11_takeClause_194 0 rfl rfl ?_
          refine r_if_le C eX11_takeClause_195 (fun c24 => ?_) (fun c24 => ?_)
          · rw [if_pos c24] at hw8
            refine r_aload_n C eX11_takeClause_202 2 rfl rfl ?_
            refine r_iconst C (v := 3) eX11_takeClause_203 (by decide) ?_
            refine r_iconst C (v := 1) eX11_takeClause_204 (by decide) ?_
            refine r_bipush C (v := 99) eX11_takeClause_205 (by decide) ?_
            obtain ⟨r25, hr25, hw8⟩ := zbind hw8
            refine r_V_i (ws' := W_Mo (z_g x) a0 o0 (r25.2.1) (gMo_told v0) (gMo_postX v0) (gMo_postStrong v0) (gMo_atRow v0) (gMo_heights v0) (gMo_ship v0) (gMo_lines v0) (gMo_text v0) (r1.2) (r25.2.2) (gMo_readX v0) (gMo_readStrong v0) (gMo_readRow v0) (gMo_parting v0) (gMo_wasShip v0) (gMo_wasLines v0) (gMo_worst v0) (gMo_logRow v0) (gMo_images v0) (gMo_isKept v0)) C (c_Mo_take (z_l x) (z_g x) a0 o0 ((r23.2.1), (gMo_told v0), (gMo_postX v0), (gMo_postStrong v0), (gMo_atRow v0), (gMo_heights v0), (gMo_ship v0), (gMo_lines v0), (gMo_text v0), (r1.2), (r23.2.2), (gMo_readX v0), (gMo_readStrong v0), (gMo_readRow v0), (gMo_parting v0), (gMo_wasShip v0), (gMo_wasLines v0), (gMo_worst v0), (gMo_logRow v0), (gMo_images v0), (gMo_isKept v0)) 3 1 99 r25 hr25) eX11_takeClause_207 MX11_163 ⟨0, 11, _, _, rfl, rfl, rfl⟩ [0, 1, 2, 3, 4, 5, 6, 7, 8, 9, 10, 11, 12, 13, 14, 15, 16, 17, 18, 19] rfl rfl rfl rfl [] rfl trivial 20 rfl rfl rfl rfl rfl rfl ?_
            refine r_istore_n C [(2, .int (r25.1)), (1, .int z2), (0, .ref (a0 o0))] eX11_takeClause_210 rfl (by decide) rfl ?_
            refine r_goto C eX11_takeClause_211 ?_
            obtain rfl := Option.some.inj hw8
            refine r_sub (lv' := [(0, .ref (a0 o0)), (2, .int (r25.1))]) [2, 0] rfl ?_
            exact J9 
          · rw [if_neg c24] at hw8
            refine r_iload_n C eX11_takeClause_198 0 rfl rfl ?_
            refine r_goto C eX11_takeClause_199 ?_
            refine r_istore_n C [(2, .int (r23.1)), (1, .int z2), (0, .ref (a0 o0))] eX11_takeClause_210 rfl (by decide) rfl ?_
            refine r_goto C eX11_takeClause_211 ?_
            obtain rfl := Option.some.inj hw8
            refine r_sub (lv' := [(0, .ref (a0 o0)), (2, .int (r23.1))]) [2, 0] rfl ?_
            exact J9 
        rw [if_neg c12] at hw8
        by_cases c13 : z2 = 3
        · rw [if_pos c13] at hw8
          refine r_tabIn C (v := 3) eX11_takeClause_85 c13 231 316 ⟨by decide, rfl, by decide⟩ ?_
          refine r_aload_n C eX11_takeClause_316 2 rfl rfl ?_
          refine r_iconst C (v := 4) eX11_takeClause_317 (by decide) ?_
          refine r_iconst C (v := 0) eX11_takeClause_318 (by decide) ?_
          refine r_bipush C (v := 50) eX11_takeClause_319 (by decide) ?_
          obtain ⟨r26, hr26, hw8⟩ := zbind hw8
          refine r_V_i (ws' := W_Mo (z_g x) a0 o0 (r26.2.1) (gMo_told v0) (gMo_postX v0) (gMo_postStrong v0) (gMo_atRow v0) (gMo_heights v0) (gMo_ship v0) (gMo_lines v0) (gMo_text v0) (r1.2) (r26.2.2) (gMo_readX v0) (gMo_readStrong v0) (gMo_readRow v0) (gMo_parting v0) (gMo_wasShip v0) (gMo_wasLines v0) (gMo_worst v0) (gMo_logRow v0) (gMo_images v0) (gMo_isKept v0)) C (c_Mo_take (z_l x) (z_g x) a0 o0 ((upd (upd (r1.1) 22 z7) 13 ((r1.1) 15)), (gMo_told v0), (gMo_postX v0), (gMo_postStrong v0), (gMo_atRow v0), (gMo_heights v0), (gMo_ship v0), (gMo_lines v0), (gMo_text v0), (r1.2), (gMo_readTold v0), (gMo_readX v0), (gMo_readStrong v0), (gMo_readRow v0), (gMo_parting v0), (gMo_wasShip v0), (gMo_wasLines v0), (gMo_worst v0), (gMo_logRow v0), (gMo_images v0), (gMo_isKept v0)) 4 0 50 r26 hr26) eX11_takeClause_321 MX11_163 ⟨0, 11, _, _, rfl, rfl, rfl⟩ [0, 1, 2, 3, 4, 5, 6, 7, 8, 9, 10, 11, 12, 13, 14, 15, 16, 17, 18, 19] rfl rfl rfl rfl [] rfl trivial 20 rfl rfl rfl rfl rfl rfl ?_
          refine r_istore_n C [(2, .int (r26.1)), (1, .int z2), (0, .ref (a0 o0))] eX11_takeClause_324 rfl (by decide) rfl ?_
          refine r_iload_n C eX11_takeClause_325 0 rfl rfl ?_
          refine r_if_le C eX11_takeClause_326 (fun c27 => ?_) (fun c27 => ?_)
          · rw [if_pos c27] at hw8
            refine r_aload_n C eX11_takeClause_333 2 rfl rfl ?_
            refine r_iconst C (v := 5) eX11_takeClause_334 (by decide) ?_
            refine r_iconst C (v := 0) eX11_takeClause_335 (by decide) ?_
            refine r_bipush C (v := 99) eX11_takeClause_336 (by decide) ?_
            obtain ⟨r28, hr28, hw8⟩ := zbind hw8
            refine r_V_i (ws' := W_Mo (z_g x) a0 o0 (r28.2.1) (gMo_told v0) (gMo_postX v0) (gMo_postStrong v0) (gMo_atRow v0) (gMo_heights v0) (gMo_ship v0) (gMo_lines v0) (gMo_text v0) (r1.2) (r28.2.2) (gMo_readX v0) (gMo_readStrong v0) (gMo_readRow v0) (gMo_parting v0) (gMo_wasShip v0) (gMo_wasLines v0) (gMo_worst v0) (gMo_logRow v0) (gMo_images v0) (gMo_isKept v0)) C (c_Mo_take (z_l x) (z_g x) a0 o0 ((r26.2.1), (gMo_told v0), (gMo_postX v0), (gMo_postStrong v0), (gMo_atRow v0), (gMo_heights v0), (gMo_ship v0), (gMo_lines v0), (gMo_text v0), (r1.2), (r26.2.2), (gMo_readX v0), (gMo_readStrong v0), (gMo_readRow v0), (gMo_parting v0), (gMo_wasShip v0), (gMo_wasLines v0), (gMo_worst v0), (gMo_logRow v0), (gMo_images v0), (gMo_isKept v0)) 5 0 99 r28 hr28) eX11_takeClause_338 MX11_163 ⟨0, 11, _, _, rfl, rfl, rfl⟩ [0, 1, 2, 3, 4, 5, 6, 7, 8, 9, 10, 11, 12, 13, 14, 15, 16, 17, 18, 19] rfl rfl rfl rfl [] rfl trivial 20 rfl rfl rfl rfl rfl rfl ?_
            refine r_istore_n C [(2, .int (r28.1)), (1, .int z2), (0, .ref (a0 o0))] eX11_takeClause_341 rfl (by decide) rfl ?_
            obtain rfl := Option.some.inj hw8
            refine r_sub (lv' := [(0, .ref (a0 o0)), (2, .int (r28.1))]) [2, 0] rfl ?_
            exact J9 
          · rw [if_neg c27] at hw8
            refine r_iload_n C eX11_takeClause_329 0 rfl rfl ?_
            refine r_goto C eX11_takeClause_330 ?_
            refine r_istore_n C [(2, .int (r26.1)), (1, .int z2), (0, .ref (a0 o0))] eX11_takeClause_341 rfl (by decide) rfl ?_
            obtain rfl := Option.some.inj hw8
            refine r_sub (lv' := [(0, .ref (a0 o0)), (2, .int (r26.1))]) [2, 0] rfl ?_
            exact J9 
        rw [if_neg c13] at hw8
        by_cases c14 : z2 = 4
        · rw [if_pos c14] at hw8
          refine r_tabIn C (v := 4) eX11_takeClause_85 c14 129 214 ⟨by decide, rfl, by decide⟩ ?_
          refine r_aload_n C eX11_takeClause_214 2 rfl rfl ?_
          refine r_bipush C (v := 6) eX11_takeClause_215 (by decide) ?_
          refine r_iconst C (v := 0) eX11_takeClause_217 (by decide) ?_
          refine r_bipush C (v := 99) eX11_takeClause_218 (by decide) ?_
          obtain ⟨r29, hr29, hw8⟩ := zbind hw8
          refine r_V_i (ws' := W_Mo (z_g x) a0 o0 (r29.2.1) (gMo_told v0) (gMo_postX v0) (gMo_postStrong v0) (gMo_atRow v0) (gMo_heights v0) (gMo_ship v0) (gMo_lines v0) (gMo_text v0) (r1.2) (r29.2.2) (gMo_readX v0) (gMo_readStrong v0) (gMo_readRow v0) (gMo_parting v0) (gMo_wasShip v0) (gMo_wasLines v0) (gMo_worst v0) (gMo_logRow v0) (gMo_images v0) (gMo_isKept v0)) C (c_Mo_take (z_l x) (z_g x) a0 o0 ((upd (upd (r1.1) 22 z7) 13 ((r1.1) 15)), (gMo_told v0), (gMo_postX v0), (gMo_postStrong v0), (gMo_atRow v0), (gMo_heights v0), (gMo_ship v0), (gMo_lines v0), (gMo_text v0), (r1.2), (gMo_readTold v0), (gMo_readX v0), (gMo_readStrong v0), (gMo_readRow v0), (gMo_parting v0), (gMo_wasShip v0), (gMo_wasLines v0), (gMo_worst v0), (gMo_logRow v0), (gMo_images v0), (gMo_isKept v0)) 6 0 99 r29 hr29) eX11_takeClause_220 MX11_163 ⟨0, 11, _, _, rfl, rfl, rfl⟩ [0, 1, 2, 3, 4, 5, 6, 7, 8, 9, 10, 11, 12, 13, 14, 15, 16, 17, 18, 19] rfl rfl rfl rfl [] rfl trivial 20 rfl rfl rfl rfl rfl rfl ?_
          refine r_istore_n C [(2, .int (r29.1)), (1, .int z2), (0, .ref (a0 o0))] eX11_takeClause_223 rfl (by decide) rfl ?_
          refine r_goto C eX11_takeClause_224 ?_
          obtain rfl := Option.some.inj hw8
          refine r_sub (lv' := [(0, .ref (a0 o0)), (2, .int (r29.1))]) [2, 0] rfl ?_
          exact J9 
        rw [if_neg c14] at hw8
        by_cases c15 : z2 = 5
        · rw [if_pos c15] at hw8
          refine r_tabIn C (v := 5) eX11_takeClause_85 c15 142 227 ⟨by decide, rfl, by decide⟩ ?_
          refine r_aload_n C eX11_takeClause_227 2 rfl rfl ?_
          refine r_bipush C (v := 7) eX11_takeClause_228 (by decide) ?_
          refine r_iconst C (v := 0) eX11_takeClause_230 (by decide) ?_
          refine r_bipush C (v := 50) eX11_takeClause_231 (by decide) ?_
          obtain ⟨r30, hr30, hw8⟩ := zbind hw8
          refine r_V_i (ws' := W_Mo (z_g x) a0 o0 (r30.2.1) (gMo_told v0) (gMo_postX v0) (gMo_postStrong v0) (gMo_atRow v0) (gMo_heights v0) (gMo_ship v0) (gMo_lines v0) (gMo_text v0) (r1.2) (r30.2.2) (gMo_readX v0) (gMo_readStrong v0) (gMo_readRow v0) (gMo_parting v0) (gMo_wasShip v0) (gMo_wasLines v0) (gMo_worst v0) (gMo_logRow v0) (gMo_images v0) (gMo_isKept v0)) C (c_Mo_take (z_l x) (z_g x) a0 o0 ((upd (upd (r1.1) 22 z7) 13 ((r1.1) 15)), (gMo_told v0), (gMo_postX v0), (gMo_postStrong v0), (gMo_atRow v0), (gMo_heights v0), (gMo_ship v0), (gMo_lines v0), (gMo_text v0), (r1.2), (gMo_readTold v0), (gMo_readX v0), (gMo_readStrong v0), (gMo_readRow v0), (gMo_parting v0), (gMo_wasShip v0), (gMo_wasLines v0), (gMo_worst v0), (gMo_logRow v0), (gMo_images v0), (gMo_isKept v0)) 7 0 50 r30 hr30) eX11_takeClause_233 MX11_163 ⟨0, 11, _, _, rfl, rfl, rfl⟩ [0, 1, 2, 3, 4, 5, 6, 7, 8, 9, 10, 11, 12, 13, 14, 15, 16, 17, 18, 19] rfl rfl rfl rfl [] rfl trivial 20 rfl rfl rfl rfl rfl rfl ?_
          refine r_istore_n C [(2, .int (r30.1)), (1, .int z2), (0, .ref (a0 o0))] eX11_takeClause_236 rfl (by decide) rfl ?_
          refine r_iload_n C eX11_takeClause_237 0 rfl rfl ?_
          obtain ⟨w31, hw31, hw8⟩ := zbind hw8
          have J32 : vV x 3 0 0 (W_Mo (z_g x) a0 o0 (w31.2.1) (gMo_told v0) (gMo_postX v0) (gMo_postStrong v0) (gMo_atRow v0) (gMo_heights v0) (gMo_ship v0) (gMo_lines v0) (gMo_text v0) (r1.2) (w31.2.2) (gMo_readX v0) (gMo_readStrong v0) (gMo_readRow v0) (gMo_parting v0) (gMo_wasShip v0) (gMo_wasLines v0) (gMo_worst v0) (gMo_logRow v0) (gMo_images v0) (gMo_isKept v0)) 254 [(0, .ref (a0 o0))] [.int (w31.1)] := by
            refine r_istore_n C [(2, .int (w31.1)), (0, .ref (a0 o0))] eX11_takeClause_254 rfl (by decide) rfl ?_
            refine r_iload_n C eX11_takeClause_255 0 rfl rfl ?_
            refine r_if_le C eX11_takeClause_256 (fun c35 => ?_) (fun c35 => ?_)
            · rw [if_pos c35] at hw8
              refine r_aload_n C eX11_takeClause_263 1 rfl rfl ?_
              refine r_bipush C (v := 9) eX11_takeClause_264 (by decide) ?_
              refine r_iconst C (v := 0) eX11_takeClause_266 (by decide) ?_
              refine r_bipush C (v := 50) eX11_takeClause_267 (by decide) ?_
              obtain ⟨r36, hr36, hw8⟩ := zbind hw8
              refine r_V_i (ws' := W_Mo (z_g x) a0 o0 (r36.2.1) (gMo_told v0) (gMo_postX v0) (gMo_postStrong v0) (gMo_atRow v0) (gMo_heights v0) (gMo_ship v0) (gMo_lines v0) (gMo_text v0) (r1.2) (r36.2.2) (gMo_readX v0) (gMo_readStrong v0) (gMo_readRow v0) (gMo_parting v0) (gMo_wasShip v0) (gMo_wasLines v0) (gMo_worst v0) (gMo_logRow v0) (gMo_images v0) (gMo_isKept v0)) C (c_Mo_take (z_l x) (z_g x) a0 o0 ((w31.2.1), (gMo_told v0), (gMo_postX v0), (gMo_postStrong v0), (gMo_atRow v0), (gMo_heights v0), (gMo_ship v0), (gMo_lines v0), (gMo_text v0), (r1.2), (w31.2.2), (gMo_readX v0), (gMo_readStrong v0), (gMo_readRow v0), (gMo_parting v0), (gMo_wasShip v0), (gMo_wasLines v0), (gMo_worst v0), (gMo_logRow v0), (gMo_images v0), (gMo_isKept v0)) 9 0 50 r36 hr36) eX11_takeClause_269 MX11_163 ⟨0, 11, _, _, rfl, rfl, rfl⟩ [0, 1, 2, 3, 4, 5, 6, 7, 8, 9, 10, 11, 12, 13, 14, 15, 16, 17, 18, 19] rfl rfl rfl rfl [] rfl trivial 20 rfl rfl rfl rfl rfl rfl ?_
              refine r_istore_n C [(2, .int (r36.1)), (0, .ref (a0 o0))] eX11_takeClause_272 rfl (by decide) rfl ?_
              refine r_goto C eX11_takeClause_273 ?_
              obtain rfl := Option.some.inj hw8
              refine r_sub (lv' := [(0, .ref (a0 o0)), (2, .int (r36.1))]) [1, 0] rfl ?_
              exact J9 
            · rw [if_neg c35] at hw8
              refine r_iload_n C eX11_takeClause_259 0 rfl rfl ?_
              refine r_goto C eX11_takeClause_260 ?_
              refine r_istore_n C [(2, .int (w31.1)), (0, .ref (a0 o0))] eX11_takeClause_272 rfl (by decide) rfl ?_
              refine r_goto C eX11_takeClause_273 ?_
              obtain rfl := Option.some.inj hw8
              refine r_sub (lv' := [(0, .ref (a0 o0)), (2, .int (w31.1))]) [1, 0] rfl ?_
              exact J9 
          refine r_if_le C eX11_takeClause_238 (fun c33 => ?_) (fun c33 => ?_)
          · rw [if_pos c33] at hw31
            refine r_aload_n C eX11_takeClause_245 2 rfl rfl ?_
            refine r_bipush C (v := 8) eX11_takeClause_246 (by decide) ?_
            refine r_iconst C (v := 0) eX11_takeClause_248 (by decide) ?_
            refine r_bipush C (v := 50) eX11_takeClause_249 (by decide) ?_
            obtain ⟨r34, hr34, hw31⟩ := zbind hw31
            refine r_V_i (ws' := W_Mo (z_g x) a0 o0 (r34.2.1) (gMo_told v0) (gMo_postX v0) (gMo_postStrong v0) (gMo_atRow v0) (gMo_heights v0) (gMo_ship v0) (gMo_lines v0) (gMo_text v0) (r1.2) (r34.2.2) (gMo_readX v0) (gMo_readStrong v0) (gMo_readRow v0) (gMo_parting v0) (gMo_wasShip v0) (gMo_wasLines v0) (gMo_worst v0) (gMo_logRow v0) (gMo_images v0) (gMo_isKept v0)) C (c_Mo_take (z_l x) (z_g x) a0 o0 ((r30.2.1), (gMo_told v0), (gMo_postX v0), (gMo_postStrong v0), (gMo_atRow v0), (gMo_heights v0), (gMo_ship v0), (gMo_lines v0), (gMo_text v0), (r1.2), (r30.2.2), (gMo_readX v0), (gMo_readStrong v0), (gMo_readRow v0), (gMo_parting v0), (gMo_wasShip v0), (gMo_wasLines v0), (gMo_worst v0), (gMo_logRow v0), (gMo_images v0), (gMo_isKept v0)) 8 0 50 r34 hr34) eX11_takeClause_251 MX11_163 ⟨0, 11, _, _, rfl, rfl, rfl⟩ [0, 1, 2, 3, 4, 5, 6, 7, 8, 9, 10, 11, 12, 13, 14, 15, 16, 17, 18, 19] rfl rfl rfl rfl [] rfl trivial 20 rfl rfl rfl rfl rfl rfl ?_
            obtain rfl := Option.some.inj hw31
            refine r_sub (lv' := [(0, .ref (a0 o0))]) [2] rfl ?_
            exact J32 
          · rw [if_neg c33] at hw31
            refine r_iload_n C eX11_takeClause_241 0 rfl rfl ?_
            refine r_goto C eX11_takeClause_242 ?_
            obtain rfl := Option.some.inj hw31
            refine r_sub (lv' := [(0, .ref (a0 o0))]) [2] rfl ?_
            exact J32 
        rw [if_neg c15] at hw8
        by_cases c16 : z2 = 6
        · rw [if_pos c16] at hw8
          refine r_tabIn C (v := 6) eX11_takeClause_85 c16 191 276 ⟨by decide, rfl, by decide⟩ ?_
          refine r_aload_n C eX11_takeClause_276 2 rfl rfl ?_
          refine r_bipush C (v := 10) eX11_takeClause_277 (by decide) ?_
          refine r_iconst C (v := 0) eX11_takeClause_279 (by decide) ?_
          refine r_bipush C (v := 99) eX11_takeClause_280 (by decide) ?_
          obtain ⟨r37, hr37, hw8⟩ := zbind hw8
          refine r_V_i (ws' := W_Mo (z_g x) a0 o0 (r37.2.1) (gMo_told v0) (gMo_postX v0) (gMo_postStrong v0) (gMo_atRow v0) (gMo_heights v0) (gMo_ship v0) (gMo_lines v0) (gMo_text v0) (r1.2) (r37.2.2) (gMo_readX v0) (gMo_readStrong v0) (gMo_readRow v0) (gMo_parting v0) (gMo_wasShip v0) (gMo_wasLines v0) (gMo_worst v0) (gMo_logRow v0) (gMo_images v0) (gMo_isKept v0)) C (c_Mo_take (z_l x) (z_g x) a0 o0 ((upd (upd (r1.1) 22 z7) 13 ((r1.1) 15)), (gMo_told v0), (gMo_postX v0), (gMo_postStrong v0), (gMo_atRow v0), (gMo_heights v0), (gMo_ship v0), (gMo_lines v0), (gMo_text v0), (r1.2), (gMo_readTold v0), (gMo_readX v0), (gMo_readStrong v0), (gMo_readRow v0), (gMo_parting v0), (gMo_wasShip v0), (gMo_wasLines v0), (gMo_worst v0), (gMo_logRow v0), (gMo_images v0), (gMo_isKept v0)) 10 0 99 r37 hr37) eX11_takeClause_282 MX11_163 ⟨0, 11, _, _, rfl, rfl, rfl⟩ [0, 1, 2, 3, 4, 5, 6, 7, 8, 9, 10, 11, 12, 13, 14, 15, 16, 17, 18, 19] rfl rfl rfl rfl [] rfl trivial 20 rfl rfl rfl rfl rfl rfl ?_
          refine r_istore_n C [(2, .int (r37.1)), (1, .int z2), (0, .ref (a0 o0))] eX11_takeClause_285 rfl (by decide) rfl ?_
          refine r_goto C eX11_takeClause_286 ?_
          obtain rfl := Option.some.inj hw8
          refine r_sub (lv' := [(0, .ref (a0 o0)), (2, .int (r37.1))]) [2, 0] rfl ?_
          exact J9 
        rw [if_neg c16] at hw8
        by_cases c17 : z2 = 7
        · rw [if_pos c17] at hw8
          refine r_tabIn C (v := 7) eX11_takeClause_85 c17 204 289 ⟨by decide, rfl, by decide⟩ ?_
          refine r_aload_n C eX11_takeClause_289 2 rfl rfl ?_
          refine r_bipush C (v := 11) eX11_takeClause_290 (by decide) ?_
          refine r_iconst C (v := 1) eX11_takeClause_292 (by decide) ?_
          refine r_bipush C (v := 99) eX11_takeClause_293 (by decide) ?_
          obtain ⟨r38, hr38, hw8⟩ := zbind hw8
          refine r_V_i (ws' := W_Mo (z_g x) a0 o0 (r38.2.1) (gMo_told v0) (gMo_postX v0) (gMo_postStrong v0) (gMo_atRow v0) (gMo_heights v0) (gMo_ship v0) (gMo_lines v0) (gMo_text v0) (r1.2) (r38.2.2) (gMo_readX v0) (gMo_readStrong v0) (gMo_readRow v0) (gMo_parting v0) (gMo_wasShip v0) (gMo_wasLines v0) (gMo_worst v0) (gMo_logRow v0) (gMo_images v0) (gMo_isKept v0)) C (c_Mo_take (z_l x) (z_g x) a0 o0 ((upd (upd (r1.1) 22 z7) 13 ((r1.1) 15)), (gMo_told v0), (gMo_postX v0), (gMo_postStrong v0), (gMo_atRow v0), (gMo_heights v0), (gMo_ship v0), (gMo_lines v0), (gMo_text v0), (r1.2), (gMo_readTold v0), (gMo_readX v0), (gMo_readStrong v0), (gMo_readRow v0), (gMo_parting v0), (gMo_wasShip v0), (gMo_wasLines v0), (gMo_worst v0), (gMo_logRow v0), (gMo_images v0), (gMo_isKept v0)) 11 1 99 r38 hr38) eX11_takeClause_295 MX11_163 ⟨0, 11, _, _, rfl, rfl, rfl⟩ [0, 1, 2, 3, 4, 5, 6, 7, 8, 9, 10, 11, 12, 13, 14, 15, 16, 17, 18, 19] rfl rfl rfl rfl [] rfl trivial 20 rfl rfl rfl rfl rfl rfl ?_
          refine r_istore_n C [(2, .int (r38.1)), (1, .int z2), (0, .ref (a0 o0))] eX11_takeClause_298 rfl (by decide) rfl ?_
          refine r_goto C eX11_takeClause_299 ?_
          obtain rfl := Option.some.inj hw8
          refine r_sub (lv' := [(0, .ref (a0 o0)), (2, .int (r38.1))]) [2, 0] rfl ?_
          exact J9 
        rw [if_neg c17] at hw8
        by_cases c18 : z2 = 8
        · rw [if_pos c18] at hw8
          refine r_tabIn C (v := 8) eX11_takeClause_85 c18 217 302 ⟨by decide, rfl, by decide⟩ ?_
          refine r_aload_n C eX11_takeClause_302 2 rfl rfl ?_
          refine r_bipush C (v := 12) eX11_takeClause_303 (by decide) ?_
          refine r_iconst C (v := 0) eX11_takeClause_305 (by decide) ?_
          refine r_sipush C (v := 999) eX11_takeClause_306 (by decide) ?_
          obtain ⟨r39, hr39, hw8⟩ := zbind hw8
          refine r_V_i (ws' := W_Mo (z_g x) a0 o0 (r39.2.1) (gMo_told v0) (gMo_postX v0) (gMo_postStrong v0) (gMo_atRow v0) (gMo_heights v0) (gMo_ship v0) (gMo_lines v0) (gMo_text v0) (r1.2) (r39.2.2) (gMo_readX v0) (gMo_readStrong v0) (gMo_readRow v0) (gMo_parting v0) (gMo_wasShip v0) (gMo_wasLines v0) (gMo_worst v0) (gMo_logRow v0) (gMo_images v0) (gMo_isKept v0)) C (c_Mo_take (z_l x) (z_g x) a0 o0 ((upd (upd (r1.1) 22 z7) 13 ((r1.1) 15)), (gMo_told v0), (gMo_postX v0), (gMo_postStrong v0), (gMo_atRow v0), (gMo_heights v0), (gMo_ship v0), (gMo_lines v0), (gMo_text v0), (r1.2), (gMo_readTold v0), (gMo_readX v0), (gMo_readStrong v0), (gMo_readRow v0), (gMo_parting v0), (gMo_wasShip v0), (gMo_wasLines v0), (gMo_worst v0), (gMo_logRow v0), (gMo_images v0), (gMo_isKept v0)) 12 0 999 r39 hr39) eX11_takeClause_309 MX11_163 ⟨0, 11, _, _, rfl, rfl, rfl⟩ [0, 1, 2, 3, 4, 5, 6, 7, 8, 9, 10, 11, 12, 13, 14, 15, 16, 17, 18, 19] rfl rfl rfl rfl [] rfl trivial 20 rfl rfl rfl rfl rfl rfl ?_
          refine r_istore_n C [(2, .int (r39.1)), (1, .int z2), (0, .ref (a0 o0))] eX11_takeClause_312 rfl (by decide) rfl ?_
          refine r_goto C eX11_takeClause_313 ?_
          obtain rfl := Option.some.inj hw8
          refine r_sub (lv' := [(0, .ref (a0 o0)), (2, .int (r39.1))]) [2, 0] rfl ?_
          exact J9 
        rw [if_neg c18] at hw8
        refine r_tabOut C eX11_takeClause_85 (fun i h1 h2 => by rcases (show i = 0 ∨ i = 1 ∨ i = 2 ∨ i = 3 ∨ i = 4 ∨ i = 5 ∨ i = 6 ∨ i = 7 ∨ i = 8 by omega) with rfl | rfl | rfl | rfl | rfl | rfl | rfl | rfl | rfl <;> assumption) 316 (by decide) ?_
        refine r_aload_n C eX11_takeClause_316 2 rfl rfl ?_
        refine r_iconst C (v := 4) eX11_takeClause_317 (by decide) ?_
        refine r_iconst C (v := 0) eX11_takeClause_318 (by decide) ?_
        refine r_bipush C (v := 50) eX11_takeClause_319 (by decide) ?_
        obtain ⟨r40, hr40, hw8⟩ := zbind hw8
        refine r_V_i (ws' := W_Mo (z_g x) a0 o0 (r40.2.1) (gMo_told v0) (gMo_postX v0) (gMo_postStrong v0) (gMo_atRow v0) (gMo_heights v0) (gMo_ship v0) (gMo_lines v0) (gMo_text v0) (r1.2) (r40.2.2) (gMo_readX v0) (gMo_readStrong v0) (gMo_readRow v0) (gMo_parting v0) (gMo_wasShip v0) (gMo_wasLines v0) (gMo_worst v0) (gMo_logRow v0) (gMo_images v0) (gMo_isKept v0)) C (c_Mo_take (z_l x) (z_g x) a0 o0 ((upd (upd (r1.1) 22 z7) 13 ((r1.1) 15)), (gMo_told v0), (gMo_postX v0), (gMo_postStrong v0), (gMo_atRow v0), (gMo_heights v0), (gMo_ship v0), (gMo_lines v0), (gMo_text v0), (r1.2), (gMo_readTold v0), (gMo_readX v0), (gMo_readStrong v0), (gMo_readRow v0), (gMo_parting v0), (gMo_wasShip v0), (gMo_wasLines v0), (gMo_worst v0), (gMo_logRow v0), (gMo_images v0), (gMo_isKept v0)) 4 0 50 r40 hr40) eX11_takeClause_321 MX11_163 ⟨0, 11, _, _, rfl, rfl, rfl⟩ [0, 1, 2, 3, 4, 5, 6, 7, 8, 9, 10, 11, 12, 13, 14, 15, 16, 17, 18, 19] rfl rfl rfl rfl [] rfl trivial 20 rfl rfl rfl rfl rfl rfl ?_
        refine r_istore_n C [(2, .int (r40.1)), (1, .int z2), (0, .ref (a0 o0))] eX11_takeClause_324 rfl (by decide) rfl ?_
        refine r_iload_n C eX11_takeClause_325 0 rfl rfl ?_
        refine r_if_le C eX11_takeClause_326 (fun c41 => ?_) (fun c41 => ?_)
        · rw [if_pos c41] at hw8
          refine r_aload_n C eX11_takeClause_333 2 rfl rfl ?_
          refine r_iconst C (v := 5) eX11_takeClause_334 (by decide) ?_
          refine r_iconst C (v := 0) eX11_takeClause_335 (by decide) ?_
          refine r_bipush C (v := 99) eX11_takeClause_336 (by decide) ?_
          obtain ⟨r42, hr42, hw8⟩ := zbind hw8
          refine r_V_i (ws' := W_Mo (z_g x) a0 o0 (r42.2.1) (gMo_told v0) (gMo_postX v0) (gMo_postStrong v0) (gMo_atRow v0) (gMo_heights v0) (gMo_ship v0) (gMo_lines v0) (gMo_text v0) (r1.2) (r42.2.2) (gMo_readX v0) (gMo_readStrong v0) (gMo_readRow v0) (gMo_parting v0) (gMo_wasShip v0) (gMo_wasLines v0) (gMo_worst v0) (gMo_logRow v0) (gMo_images v0) (gMo_isKept v0)) C (c_Mo_take (z_l x) (z_g x) a0 o0 ((r40.2.1), (gMo_told v0), (gMo_postX v0), (gMo_postStrong v0), (gMo_atRow v0), (gMo_heights v0), (gMo_ship v0), (gMo_lines v0), (gMo_text v0), (r1.2), (r40.2.2), (gMo_readX v0), (gMo_readStrong v0), (gMo_readRow v0), (gMo_parting v0), (gMo_wasShip v0), (gMo_wasLines v0), (gMo_worst v0), (gMo_logRow v0), (gMo_images v0), (gMo_isKept v0)) 5 0 99 r42 hr42) eX11_takeClause_338 MX11_163 ⟨0, 11, _, _, rfl, rfl, rfl⟩ [0, 1, 2, 3, 4, 5, 6, 7, 8, 9, 10, 11, 12, 13, 14, 15, 16, 17, 18, 19] rfl rfl rfl rfl [] rfl trivial 20 rfl rfl rfl rfl rfl rfl ?_
          refine r_istore_n C [(2, .int (r42.1)), (1, .int z2), (0, .ref (a0 o0))] eX11_takeClause_341 rfl (by decide) rfl ?_
          obtain rfl := Option.some.inj hw8
          refine r_sub (lv' := [(0, .ref (a0 o0)), (2, .int (r42.1))]) [2, 0] rfl ?_
          exact J9 
        · rw [if_neg c41] at hw8
          refine r_iload_n C eX11_takeClause_329 0 rfl rfl ?_
          refine r_goto C eX11_takeClause_330 ?_
          refine r_istore_n C [(2, .int (r40.1)), (1, .int z2), (0, .ref (a0 o0))] eX11_takeClause_341 rfl (by decide) rfl ?_
          obtain rfl := Option.some.inj hw8
          refine r_sub (lv' := [(0, .ref (a0 o0)), (2, .int (r40.1))]) [2, 0] rfl ?_
          exact J9 
      · rw [if_pos c5] at hf
        refine r_goto C eX11_takeClause_37 ?_
        refine r_aload_n C eX11_takeClause_52 1 rfl rfl ?_
        refine r_iconst C (v := 3) eX11_takeClause_53 (by decide) ?_
        refine r_aload_n C eX11_takeClause_54 1 rfl rfl ?_
        refine r_get (v := .int ((r1.1) 13)) C eX11_takeClause_55 FX11_97 0 rfl rfl ?_
        obtain ⟨r6, hr6, hf⟩ := zlet_of hf
        refine r_V_i (ws' := W_Mo (z_g x) a0 o0 (r6.2) (gMo_told v0) (gMo_postX v0) (gMo_postStrong v0) (gMo_atRow v0) (gMo_heights v0) (gMo_ship v0) (gMo_lines v0) (gMo_text v0) (r1.2) (gMo_readTold v0) (gMo_readX v0) (gMo_readStrong v0) (gMo_readRow v0) (gMo_parting v0) (gMo_wasShip v0) (gMo_wasLines v0) (gMo_worst v0) (gMo_logRow v0) (gMo_images v0) (gMo_isKept v0)) C (c_Mo_fails (z_l x) (z_g x) a0 o0 ((r1.1), (gMo_told v0), (gMo_postX v0), (gMo_postStrong v0), (gMo_atRow v0), (gMo_heights v0), (gMo_ship v0), (gMo_lines v0), (gMo_text v0), (r1.2), (gMo_readTold v0), (gMo_readX v0), (gMo_readStrong v0), (gMo_readRow v0), (gMo_parting v0), (gMo_wasShip v0), (gMo_wasLines v0), (gMo_worst v0), (gMo_logRow v0), (gMo_images v0), (gMo_isKept v0)) 3 ((r1.1) 13) r6 hr6) eX11_takeClause_58 MX11_127 ⟨0, 11, _, _, rfl, rfl, rfl⟩ [0, 1, 2, 3, 4, 5, 6, 7, 8, 9, 10, 11, 12, 13, 14, 15, 16, 17, 18, 19] rfl rfl rfl rfl [] rfl trivial 20 rfl rfl rfl rfl rfl rfl ?_
        obtain rfl := Option.some.inj (show some (((r6.1), (r6.2), (r1.2), (gMo_readTold v0), (gMo_readX v0), (gMo_readStrong v0)) : Int32 × (Nat → Int32) × Int64 × (Nat → Int32) × (Nat → Int32) × (Nat → Int32)) = some _ from hf)
        exact hret _ _ _ eX11_takeClause_61
  · rw [if_neg c3] at hf
    refine r_aload_n C eX11_takeClause_13 1 rfl rfl ?_
    refine r_iconst C (v := 1) eX11_takeClause_14 (by decide) ?_
    refine r_aload_n C eX11_takeClause_15 1 rfl rfl ?_
    refine r_get (v := .int ((r1.1) 13)) C eX11_takeClause_16 FX11_97 0 rfl rfl ?_
    obtain ⟨r85, hr85, hf⟩ := zlet_of hf
    refine r_V_i (ws' := W_Mo (z_g x) a0 o0 (r85.2) (gMo_told v0) (gMo_postX v0) (gMo_postStrong v0) (gMo_atRow v0) (gMo_heights v0) (gMo_ship v0) (gMo_lines v0) (gMo_text v0) (r1.2) (gMo_readTold v0) (gMo_readX v0) (gMo_readStrong v0) (gMo_readRow v0) (gMo_parting v0) (gMo_wasShip v0) (gMo_wasLines v0) (gMo_worst v0) (gMo_logRow v0) (gMo_images v0) (gMo_isKept v0)) C (c_Mo_fails (z_l x) (z_g x) a0 o0 ((r1.1), (gMo_told v0), (gMo_postX v0), (gMo_postStrong v0), (gMo_atRow v0), (gMo_heights v0), (gMo_ship v0), (gMo_lines v0), (gMo_text v0), (r1.2), (gMo_readTold v0), (gMo_readX v0), (gMo_readStrong v0), (gMo_readRow v0), (gMo_parting v0), (gMo_wasShip v0), (gMo_wasLines v0), (gMo_worst v0), (gMo_logRow v0), (gMo_images v0), (gMo_isKept v0)) 1 ((r1.1) 13) r85 hr85) eX11_takeClause_19 MX11_127 ⟨0, 11, _, _, rfl, rfl, rfl⟩ [0, 1, 2, 3, 4, 5, 6, 7, 8, 9, 10, 11, 12, 13, 14, 15, 16, 17, 18, 19] rfl rfl rfl rfl [] rfl trivial 20 rfl rfl rfl rfl rfl rfl ?_
    obtain rfl := Option.some.inj (show some (((r85.1), (r85.2), (r1.2), (gMo_readTold v0), (gMo_readX v0), (gMo_readStrong v0)) : Int32 × (Nat → Int32) × Int64 × (Nat → Int32) × (Nat → Int32) × (Nat → Int32)) = some _ from hf)
    exact hret _ _ _ eX11_takeClause_22
