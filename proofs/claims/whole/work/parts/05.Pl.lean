theorem eX3_add_0 : zd 1 cX3_add 0 1 (.aload_n 0) := ⟨by decide +kernel, rfl⟩
theorem eX3_add_1 : zd 3 cX3_add 1 4 (.getfield 25) := ⟨by decide +kernel, rfl⟩
theorem eX3_add_4 : zdi cX3_add 4 7 56 (.ifCond .lt) := ⟨52, by decide +kernel, rfl, by decide⟩
theorem eX3_add_7 : zd 1 cX3_add 7 8 (.aload_n 0) := ⟨by decide +kernel, rfl⟩
theorem eX3_add_8 : zd 3 cX3_add 8 11 (.getfield 25) := ⟨by decide +kernel, rfl⟩
theorem eX3_add_11 : zd 2 cX3_add 11 13 (.bipush 20) := ⟨by decide +kernel, rfl⟩
theorem eX3_add_13 : zdi cX3_add 13 16 56 (.if_icmp .ge) := ⟨43, by decide +kernel, rfl, by decide⟩
theorem eX3_add_16 : zd 1 cX3_add 16 17 (.aload_n 0) := ⟨by decide +kernel, rfl⟩
theorem eX3_add_17 : zd 3 cX3_add 17 20 (.getfield 9) := ⟨by decide +kernel, rfl⟩
theorem eX3_add_20 : zd 1 cX3_add 20 21 (.aload_n 0) := ⟨by decide +kernel, rfl⟩
theorem eX3_add_21 : zd 3 cX3_add 21 24 (.getfield 25) := ⟨by decide +kernel, rfl⟩
theorem eX3_add_24 : zd 1 cX3_add 24 25 (.iload_n 1) := ⟨by decide +kernel, rfl⟩
theorem eX3_add_25 : zd 1 cX3_add 25 26 (.iastore) := ⟨by decide +kernel, rfl⟩
theorem eX3_add_26 : zd 1 cX3_add 26 27 (.aload_n 0) := ⟨by decide +kernel, rfl⟩
theorem eX3_add_27 : zd 3 cX3_add 27 30 (.getfield 13) := ⟨by decide +kernel, rfl⟩
theorem eX3_add_30 : zd 1 cX3_add 30 31 (.aload_n 0) := ⟨by decide +kernel, rfl⟩
theorem eX3_add_31 : zd 3 cX3_add 31 34 (.getfield 25) := ⟨by decide +kernel, rfl⟩
theorem eX3_add_34 : zd 1 cX3_add 34 35 (.iload_n 2) := ⟨by decide +kernel, rfl⟩
theorem eX3_add_35 : zd 1 cX3_add 35 36 (.iastore) := ⟨by decide +kernel, rfl⟩
theorem eX3_add_36 : zd 1 cX3_add 36 37 (.aload_n 0) := ⟨by decide +kernel, rfl⟩
theorem eX3_add_37 : zd 3 cX3_add 37 40 (.getfield 16) := ⟨by decide +kernel, rfl⟩
theorem eX3_add_40 : zd 1 cX3_add 40 41 (.aload_n 0) := ⟨by decide +kernel, rfl⟩
theorem eX3_add_41 : zd 3 cX3_add 41 44 (.getfield 25) := ⟨by decide +kernel, rfl⟩
theorem eX3_add_44 : zd 1 cX3_add 44 45 (.iload_n 3) := ⟨by decide +kernel, rfl⟩
theorem eX3_add_45 : zd 1 cX3_add 45 46 (.iastore) := ⟨by decide +kernel, rfl⟩
theorem eX3_add_46 : zd 1 cX3_add 46 47 (.aload_n 0) := ⟨by decide +kernel, rfl⟩
theorem eX3_add_47 : zd 1 cX3_add 47 48 (.dup) := ⟨by decide +kernel, rfl⟩
theorem eX3_add_48 : zd 3 cX3_add 48 51 (.getfield 25) := ⟨by decide +kernel, rfl⟩
theorem eX3_add_51 : zd 1 cX3_add 51 52 (.iconst 1) := ⟨by decide +kernel, rfl⟩
theorem eX3_add_52 : zd 1 cX3_add 52 53 (.iadd) := ⟨by decide +kernel, rfl⟩
theorem eX3_add_53 : zd 3 cX3_add 53 56 (.putfield 25) := ⟨by decide +kernel, rfl⟩
theorem eX3_add_56 : zd 1 cX3_add 56 57 (.return_) := ⟨by decide +kernel, rfl⟩
theorem FX3_9 : zlF RX3 9 3 1 := ⟨(RX3, TX3, 4), rfl, by decide, q131, zin3⟩
theorem FX3_13 : zlF RX3 13 3 2 := ⟨(RX3, TX3, 4), rfl, by decide, q132, zin3⟩
theorem FX3_16 : zlF RX3 16 3 3 := ⟨(RX3, TX3, 4), rfl, by decide, q133, zin3⟩
theorem FX3_25 : zlF RX3 25 3 0 := ⟨(RX3, TX3, 4), rfl, by decide, q128, zin3⟩
theorem PX3_25 : zlP RX3 25 3 0 .int := ⟨(RX3, TX3, 4), tyX3, rfl, by decide, q128, zin3, tyX3_ok, nmX3, rfl, by decide +kernel⟩
noncomputable def f_Pl_add (v0 : tPl) (p1 : Int32) (p2 : Int32) (p3 : Int32) : Option ((Nat → Int32) × (Nat → Int32) × (Nat → Int32) × (Nat → Int32)) := (if ((gPl_ints v0) 0) < 0 then (some ((gPl_ints v0), (gPl_seconds v0), (gPl_engines v0), (gPl_wheels v0))) else (if 20 ≤ ((gPl_ints v0) 0) then (some ((gPl_ints v0), (gPl_seconds v0), (gPl_engines v0), (gPl_wheels v0))) else (if inb ((gPl_ints v0) 0) 20 = true then (if inb ((gPl_ints v0) 0) 20 = true then (if inb ((gPl_ints v0) 0) 20 = true then (zlet (((gPl_ints v0) 0) + 1) (fun (z6 : Int32) => (some ((upd (gPl_ints v0) 0 z6), (upd (gPl_seconds v0) (ix ((gPl_ints v0) 0)) p1), (upd (gPl_engines v0) (ix ((gPl_ints v0) 0)) p2), (upd (gPl_wheels v0) (ix ((gPl_ints v0) 0)) p3))))) else none) else none) else none)))
abbrev rm_Pl_add : Room := { frames := 0, cells := 0, slots := 0, locals := 0 }
set_option maxHeartbeats 4000000 in
set_option maxRecDepth 100000 in
theorem c_Pl_add (l : Launch) (g : zGl) (a0 : Nat → Nat) (o0 : Nat) (v0 : tPl) (p1 : Int32) (p2 : Int32) (p3 : Int32) (out : (Nat → Int32) × (Nat → Int32) × (Nat → Int32) × (Nat → Int32)) (hf : f_Pl_add v0 p1 p2 p3 = some out) : zMv l yX3_add cX3_add 4 rm_Pl_add g [.ref (a0 o0), .int p1, .int p2, .int p3] (W_Pl g a0 o0 (gPl_ints v0) (gPl_seconds v0) (gPl_engines v0) (gPl_wheels v0))  (W_Pl g a0 o0 (out.1) (out.2.1) (out.2.2.1) (out.2.2.2)) := by
  refine zMv_of (lv := [(0, .ref (a0 o0)), (1, .int p1), (2, .int p2), (3, .int p3)]) (by decide) (Nat.le_of_ble_eq_true rfl) rfl (fun x hl hg C hret => ?_)
  subst hl; subst hg
  rw [f_Pl_add] at hf
  refine r_aload_n C eX3_add_0 0 rfl rfl ?_
  refine r_get (v := .int ((gPl_ints v0) 0)) C eX3_add_1 FX3_25 0 rfl rfl ?_
  refine r_if_lt C eX3_add_4 (fun c1 => ?_) (fun c1 => ?_)
  · rw [if_pos c1] at hf
    obtain rfl := Option.some.inj (show some (((gPl_ints v0), (gPl_seconds v0), (gPl_engines v0), (gPl_wheels v0)) : (Nat → Int32) × (Nat → Int32) × (Nat → Int32) × (Nat → Int32)) = some _ from hf)
    exact hret _ _ _ eX3_add_56
  · rw [if_neg c1] at hf
    refine r_aload_n C eX3_add_7 0 rfl rfl ?_
    refine r_get (v := .int ((gPl_ints v0) 0)) C eX3_add_8 FX3_25 0 rfl rfl ?_
    refine r_bipush C (v := 20) eX3_add_11 (by decide) ?_
    refine r_icmp_ge C eX3_add_13 (fun c2 => ?_) (fun c2 => ?_)
    · rw [if_pos c2] at hf
      obtain rfl := Option.some.inj (show some (((gPl_ints v0), (gPl_seconds v0), (gPl_engines v0), (gPl_wheels v0)) : (Nat → Int32) × (Nat → Int32) × (Nat → Int32) × (Nat → Int32)) = some _ from hf)
      exact hret _ _ _ eX3_add_56
    · rw [if_neg c2] at hf
      refine r_aload_n C eX3_add_16 0 rfl rfl ?_
      refine r_get (v := .ref (a0 (o0 + 1))) C eX3_add_17 FX3_9 0 rfl rfl ?_
      refine r_aload_n C eX3_add_20 0 rfl rfl ?_
      refine r_get (v := .int ((gPl_ints v0) 0)) C eX3_add_21 FX3_25 0 rfl rfl ?_
      refine r_iload_n C eX3_add_24 1 rfl rfl ?_
      obtain ⟨hb3, hf⟩ := zchk hf
      refine r_iast (ws' := W_Pl (z_g x) a0 o0 (gPl_ints v0) (upd (gPl_seconds v0) (ix ((gPl_ints v0) 0)) p1) (gPl_engines v0) (gPl_wheels v0)) C eX3_add_25 1 rfl (inb_in hb3) rfl ?_
      refine r_aload_n C eX3_add_26 0 rfl rfl ?_
      refine r_get (v := .ref (a0 (o0 + 2))) C eX3_add_27 FX3_13 0 rfl rfl ?_
      refine r_aload_n C eX3_add_30 0 rfl rfl ?_
      refine r_get (v := .int ((gPl_ints v0) 0)) C eX3_add_31 FX3_25 0 rfl rfl ?_
      refine r_iload_n C eX3_add_34 2 rfl rfl ?_
      obtain ⟨hb4, hf⟩ := zchk hf
      refine r_iast (ws' := W_Pl (z_g x) a0 o0 (gPl_ints v0) (upd (gPl_seconds v0) (ix ((gPl_ints v0) 0)) p1) (upd (gPl_engines v0) (ix ((gPl_ints v0) 0)) p2) (gPl_wheels v0)) C eX3_add_35 2 rfl (inb_in hb4) rfl ?_
      refine r_aload_n C eX3_add_36 0 rfl rfl ?_
      refine r_get (v := .ref (a0 (o0 + 3))) C eX3_add_37 FX3_16 0 rfl rfl ?_
      refine r_aload_n C eX3_add_40 0 rfl rfl ?_
      refine r_get (v := .int ((gPl_ints v0) 0)) C eX3_add_41 FX3_25 0 rfl rfl ?_
      refine r_iload_n C eX3_add_44 3 rfl rfl ?_
      obtain ⟨hb5, hf⟩ := zchk hf
      refine r_iast (ws' := W_Pl (z_g x) a0 o0 (gPl_ints v0) (upd (gPl_seconds v0) (ix ((gPl_ints v0) 0)) p1) (upd (gPl_engines v0) (ix ((gPl_ints v0) 0)) p2) (upd (gPl_wheels v0) (ix ((gPl_ints v0) 0)) p3)) C eX3_add_45 3 rfl (inb_in hb5) rfl ?_
      refine r_aload_n C eX3_add_46 0 rfl rfl ?_
      refine r_dup C eX3_add_47 rfl ?_
      refine r_get (v := .int ((gPl_ints v0) 0)) C eX3_add_48 FX3_25 0 rfl rfl ?_
      refine r_iconst C (v := 1) eX3_add_51 (by decide) ?_
      refine r_iadd C eX3_add_52 ?_
      obtain ⟨z6, hz6, hf⟩ := zlet_of hf
      refine r_nami hz6 ?_
      refine r_put (ws' := W_Pl (z_g x) a0 o0 (upd (gPl_ints v0) 0 z6) (upd (gPl_seconds v0) (ix ((gPl_ints v0) 0)) p1) (upd (gPl_engines v0) (ix ((gPl_ints v0) 0)) p2) (upd (gPl_wheels v0) (ix ((gPl_ints v0) 0)) p3)) C eX3_add_53 PX3_25 0 rfl rfl rfl (Nat.le_of_ble_eq_true rfl) rfl ?_
      obtain rfl := Option.some.inj (show some (((upd (gPl_ints v0) 0 z6), (upd (gPl_seconds v0) (ix ((gPl_ints v0) 0)) p1), (upd (gPl_engines v0) (ix ((gPl_ints v0) 0)) p2), (upd (gPl_wheels v0) (ix ((gPl_ints v0) 0)) p3)) : (Nat → Int32) × (Nat → Int32) × (Nat → Int32) × (Nat → Int32)) = some _ from hf)
      exact hret _ _ _ eX3_add_56
theorem eX3_copyFrom_0 : zd 1 cX3_copyFrom 0 1 (.aload_n 1) := ⟨by decide +kernel, rfl⟩
theorem eX3_copyFrom_1 : zd 3 cX3_copyFrom 1 4 (.getfield 9) := ⟨by decide +kernel, rfl⟩
theorem eX3_copyFrom_4 : zd 1 cX3_copyFrom 4 5 (.iconst 0) := ⟨by decide +kernel, rfl⟩
theorem eX3_copyFrom_5 : zd 1 cX3_copyFrom 5 6 (.aload_n 0) := ⟨by decide +kernel, rfl⟩
theorem eX3_copyFrom_6 : zd 3 cX3_copyFrom 6 9 (.getfield 9) := ⟨by decide +kernel, rfl⟩
theorem eX3_copyFrom_9 : zd 1 cX3_copyFrom 9 10 (.iconst 0) := ⟨by decide +kernel, rfl⟩
theorem eX3_copyFrom_10 : zd 2 cX3_copyFrom 10 12 (.bipush 20) := ⟨by decide +kernel, rfl⟩
theorem eX3_copyFrom_12 : zd 3 cX3_copyFrom 12 15 (.invokestatic 19) := ⟨by decide +kernel, rfl⟩
theorem eX3_copyFrom_15 : zd 1 cX3_copyFrom 15 16 (.aload_n 1) := ⟨by decide +kernel, rfl⟩
theorem eX3_copyFrom_16 : zd 3 cX3_copyFrom 16 19 (.getfield 13) := ⟨by decide +kernel, rfl⟩
theorem eX3_copyFrom_19 : zd 1 cX3_copyFrom 19 20 (.iconst 0) := ⟨by decide +kernel, rfl⟩
theorem eX3_copyFrom_20 : zd 1 cX3_copyFrom 20 21 (.aload_n 0) := ⟨by decide +kernel, rfl⟩
theorem eX3_copyFrom_21 : zd 3 cX3_copyFrom 21 24 (.getfield 13) := ⟨by decide +kernel, rfl⟩
theorem eX3_copyFrom_24 : zd 1 cX3_copyFrom 24 25 (.iconst 0) := ⟨by decide +kernel, rfl⟩
theorem eX3_copyFrom_25 : zd 2 cX3_copyFrom 25 27 (.bipush 20) := ⟨by decide +kernel, rfl⟩
theorem eX3_copyFrom_27 : zd 3 cX3_copyFrom 27 30 (.invokestatic 19) := ⟨by decide +kernel, rfl⟩
theorem eX3_copyFrom_30 : zd 1 cX3_copyFrom 30 31 (.aload_n 1) := ⟨by decide +kernel, rfl⟩
theorem eX3_copyFrom_31 : zd 3 cX3_copyFrom 31 34 (.getfield 16) := ⟨by decide +kernel, rfl⟩
theorem eX3_copyFrom_34 : zd 1 cX3_copyFrom 34 35 (.iconst 0) := ⟨by decide +kernel, rfl⟩
theorem eX3_copyFrom_35 : zd 1 cX3_copyFrom 35 36 (.aload_n 0) := ⟨by decide +kernel, rfl⟩
theorem eX3_copyFrom_36 : zd 3 cX3_copyFrom 36 39 (.getfield 16) := ⟨by decide +kernel, rfl⟩
theorem eX3_copyFrom_39 : zd 1 cX3_copyFrom 39 40 (.iconst 0) := ⟨by decide +kernel, rfl⟩
theorem eX3_copyFrom_40 : zd 2 cX3_copyFrom 40 42 (.bipush 20) := ⟨by decide +kernel, rfl⟩
theorem eX3_copyFrom_42 : zd 3 cX3_copyFrom 42 45 (.invokestatic 19) := ⟨by decide +kernel, rfl⟩
theorem eX3_copyFrom_45 : zd 1 cX3_copyFrom 45 46 (.aload_n 0) := ⟨by decide +kernel, rfl⟩
theorem eX3_copyFrom_46 : zd 1 cX3_copyFrom 46 47 (.aload_n 1) := ⟨by decide +kernel, rfl⟩
theorem eX3_copyFrom_47 : zd 3 cX3_copyFrom 47 50 (.getfield 25) := ⟨by decide +kernel, rfl⟩
theorem eX3_copyFrom_50 : zd 3 cX3_copyFrom 50 53 (.putfield 25) := ⟨by decide +kernel, rfl⟩
theorem eX3_copyFrom_53 : zd 1 cX3_copyFrom 53 54 (.return_) := ⟨by decide +kernel, rfl⟩
noncomputable def f_Pl_copyFrom (v0 : tPl) (v1 : tPl)  : (Nat → Int32) × (Nat → Int32) × (Nat → Int32) × (Nat → Int32) := ((upd (gPl_ints v0) 0 ((gPl_ints v1) 0)), (va_cpy (gPl_seconds v1) (gPl_seconds v0) 0 0 20), (va_cpy (gPl_engines v1) (gPl_engines v0) 0 0 20), (va_cpy (gPl_wheels v1) (gPl_wheels v0) 0 0 20))
abbrev rm_Pl_copyFrom : Room := { frames := 1, cells := 0, slots := 0, locals := 60 }
set_option maxHeartbeats 4000000 in
set_option maxRecDepth 100000 in
theorem c_Pl_copyFrom (l : Launch) (g : zGl) (a0 : Nat → Nat) (o0 : Nat) (v0 : tPl) (a1 : Nat → Nat) (o1 : Nat) (v1 : tPl)  (out : (Nat → Int32) × (Nat → Int32) × (Nat → Int32) × (Nat → Int32)) (hf : f_Pl_copyFrom v0 v1 = out) : zMv l yX3_copyFrom cX3_copyFrom 2 rm_Pl_copyFrom g [.ref (a0 o0), .ref (a1 o1)] (W_Pl g a0 o0 (gPl_ints v0) (gPl_seconds v0) (gPl_engines v0) (gPl_wheels v0) ++ W_Pl g a1 o1 (gPl_ints v1) (gPl_seconds v1) (gPl_engines v1) (gPl_wheels v1))  (W_Pl g a0 o0 (out.1) (out.2.1) (out.2.2.1) (out.2.2.2) ++ W_Pl g a1 o1 (gPl_ints v1) (gPl_seconds v1) (gPl_engines v1) (gPl_wheels v1)) := by
  refine zMv_of (lv := [(0, .ref (a0 o0)), (1, .ref (a1 o1))]) (by decide) (Nat.le_of_ble_eq_true rfl) rfl (fun x hl hg C hret => ?_)
  subst hl; subst hg
  rw [f_Pl_copyFrom] at hf
  refine r_aload_n C eX3_copyFrom_0 1 rfl rfl ?_
  refine r_get (v := .ref (a1 (o1 + 1))) C eX3_copyFrom_1 FX3_9 4 rfl rfl ?_
  refine r_iconst C (v := 0) eX3_copyFrom_4 (by decide) ?_
  refine r_aload_n C eX3_copyFrom_5 0 rfl rfl ?_
  refine r_get (v := .ref (a0 (o0 + 1))) C eX3_copyFrom_6 FX3_9 0 rfl rfl ?_
  refine r_iconst C (v := 0) eX3_copyFrom_9 (by decide) ?_
  refine r_bipush C (v := 20) eX3_copyFrom_10 (by decide) ?_
  refine r_copy (n := 20) (ws' := W_Pl (z_g x) a0 o0 (gPl_ints v0) (va_cpy (gPl_seconds v1) (gPl_seconds v0) 0 0 20) (gPl_engines v0) (gPl_wheels v0) ++ W_Pl (z_g x) a1 o1 (gPl_ints v1) (gPl_seconds v1) (gPl_engines v1) (gPl_wheels v1)) C eX3_copyFrom_12 q622 (C.ts _ q608) q607 q17 5 1 rfl rfl (by decide) (Nat.le_of_ble_eq_true rfl) (Nat.le_of_ble_eq_true rfl) rfl ?_
  refine r_aload_n C eX3_copyFrom_15 1 rfl rfl ?_
  refine r_get (v := .ref (a1 (o1 + 2))) C eX3_copyFrom_16 FX3_13 4 rfl rfl ?_
  refine r_iconst C (v := 0) eX3_copyFrom_19 (by decide) ?_
  refine r_aload_n C eX3_copyFrom_20 0 rfl rfl ?_
  refine r_get (v := .ref (a0 (o0 + 2))) C eX3_copyFrom_21 FX3_13 0 rfl rfl ?_
  refine r_iconst C (v := 0) eX3_copyFrom_24 (by decide) ?_
  refine r_bipush C (v := 20) eX3_copyFrom_25 (by decide) ?_
  refine r_copy (n := 20) (ws' := W_Pl (z_g x) a0 o0 (gPl_ints v0) (va_cpy (gPl_seconds v1) (gPl_seconds v0) 0 0 20) (va_cpy (gPl_engines v1) (gPl_engines v0) 0 0 20) (gPl_wheels v0) ++ W_Pl (z_g x) a1 o1 (gPl_ints v1) (gPl_seconds v1) (gPl_engines v1) (gPl_wheels v1)) C eX3_copyFrom_27 q622 (C.ts _ q608) q607 q17 6 2 rfl rfl (by decide) (Nat.le_of_ble_eq_true rfl) (Nat.le_of_ble_eq_true rfl) rfl ?_
  refine r_aload_n C eX3_copyFrom_30 1 rfl rfl ?_
  refine r_get (v := .ref (a1 (o1 + 3))) C eX3_copyFrom_31 FX3_16 4 rfl rfl ?_
  refine r_iconst C (v := 0) eX3_copyFrom_34 (by decide) ?_
  refine r_aload_n C eX3_copyFrom_35 0 rfl rfl ?_
  refine r_get (v := .ref (a0 (o0 + 3))) C eX3_copyFrom_36 FX3_16 0 rfl rfl ?_
  refine r_iconst C (v := 0) eX3_copyFrom_39 (by decide) ?_
  refine r_bipush C (v := 20) eX3_copyFrom_40 (by decide) ?_
  refine r_copy (n := 20) (ws' := W_Pl (z_g x) a0 o0 (gPl_ints v0) (va_cpy (gPl_seconds v1) (gPl_seconds v0) 0 0 20) (va_cpy (gPl_engines v1) (gPl_engines v0) 0 0 20) (va_cpy (gPl_wheels v1) (gPl_wheels v0) 0 0 20) ++ W_Pl (z_g x) a1 o1 (gPl_ints v1) (gPl_seconds v1) (gPl_engines v1) (gPl_wheels v1)) C eX3_copyFrom_42 q622 (C.ts _ q608) q607 q17 7 3 rfl rfl (by decide) (Nat.le_of_ble_eq_true rfl) (Nat.le_of_ble_eq_true rfl) rfl ?_
  refine r_aload_n C eX3_copyFrom_45 0 rfl rfl ?_
  refine r_aload_n C eX3_copyFrom_46 1 rfl rfl ?_
  refine r_get (v := .int ((gPl_ints v1) 0)) C eX3_copyFrom_47 FX3_25 4 rfl rfl ?_
  refine r_put (ws' := W_Pl (z_g x) a0 o0 (upd (gPl_ints v0) 0 ((gPl_ints v1) 0)) (va_cpy (gPl_seconds v1) (gPl_seconds v0) 0 0 20) (va_cpy (gPl_engines v1) (gPl_engines v0) 0 0 20) (va_cpy (gPl_wheels v1) (gPl_wheels v0) 0 0 20) ++ W_Pl (z_g x) a1 o1 (gPl_ints v1) (gPl_seconds v1) (gPl_engines v1) (gPl_wheels v1)) C eX3_copyFrom_50 PX3_25 0 rfl rfl rfl (Nat.le_of_ble_eq_true rfl) rfl ?_
  subst hf
  exact hret _ _ _ eX3_copyFrom_53
theorem eX3_isBehind_0 : zd 1 cX3_isBehind 0 1 (.aload_n 0) := ⟨by decide +kernel, rfl⟩
theorem eX3_isBehind_1 : zd 3 cX3_isBehind 1 4 (.getfield 25) := ⟨by decide +kernel, rfl⟩
theorem eX3_isBehind_4 : zd 1 cX3_isBehind 4 5 (.iconst 1) := ⟨by decide +kernel, rfl⟩
theorem eX3_isBehind_5 : zdi cX3_isBehind 5 8 32 (.if_icmp .lt) := ⟨27, by decide +kernel, rfl, by decide⟩
theorem eX3_isBehind_8 : zd 1 cX3_isBehind 8 9 (.aload_n 0) := ⟨by decide +kernel, rfl⟩
theorem eX3_isBehind_9 : zd 3 cX3_isBehind 9 12 (.getfield 25) := ⟨by decide +kernel, rfl⟩
theorem eX3_isBehind_12 : zd 2 cX3_isBehind 12 14 (.bipush 20) := ⟨by decide +kernel, rfl⟩
theorem eX3_isBehind_14 : zdi cX3_isBehind 14 17 32 (.if_icmp .gt) := ⟨18, by decide +kernel, rfl, by decide⟩
theorem eX3_isBehind_17 : zd 1 cX3_isBehind 17 18 (.iload_n 1) := ⟨by decide +kernel, rfl⟩
theorem eX3_isBehind_18 : zd 1 cX3_isBehind 18 19 (.aload_n 0) := ⟨by decide +kernel, rfl⟩
theorem eX3_isBehind_19 : zd 3 cX3_isBehind 19 22 (.getfield 9) := ⟨by decide +kernel, rfl⟩
theorem eX3_isBehind_22 : zd 1 cX3_isBehind 22 23 (.aload_n 0) := ⟨by decide +kernel, rfl⟩
theorem eX3_isBehind_23 : zd 3 cX3_isBehind 23 26 (.getfield 25) := ⟨by decide +kernel, rfl⟩
theorem eX3_isBehind_26 : zd 1 cX3_isBehind 26 27 (.iconst 1) := ⟨by decide +kernel, rfl⟩
theorem eX3_isBehind_27 : zd 1 cX3_isBehind 27 28 (.isub) := ⟨by decide +kernel, rfl⟩
theorem eX3_isBehind_28 : zd 1 cX3_isBehind 28 29 (.iaload) := ⟨by decide +kernel, rfl⟩
theorem eX3_isBehind_29 : zdi cX3_isBehind 29 32 36 (.if_icmp .le) := ⟨7, by decide +kernel, rfl, by decide⟩
theorem eX3_isBehind_32 : zd 1 cX3_isBehind 32 33 (.iconst 1) := ⟨by decide +kernel, rfl⟩
theorem eX3_isBehind_33 : zdi cX3_isBehind 33 36 37 (.goto) := ⟨4, by decide +kernel, rfl, by decide⟩
theorem eX3_isBehind_36 : zd 1 cX3_isBehind 36 37 (.iconst 0) := ⟨by decide +kernel, rfl⟩
theorem eX3_isBehind_37 : zd 1 cX3_isBehind 37 38 (.ireturn) := ⟨by decide +kernel, rfl⟩
noncomputable def f_Pl_isBehind (v0 : tPl) (p1 : Int32) : Option (Int32) := (if ((gPl_ints v0) 0) < 1 then (some 1) else (if 20 < ((gPl_ints v0) 0) then (some 1) else (if inb (((gPl_ints v0) 0) - 1) 20 = true then (if p1 ≤ ((gPl_seconds v0) (ix (((gPl_ints v0) 0) - 1))) then (some 0) else (some 1)) else none)))
abbrev rm_Pl_isBehind : Room := { frames := 0, cells := 0, slots := 0, locals := 0 }
set_option maxHeartbeats 4000000 in
set_option maxRecDepth 100000 in
theorem c_Pl_isBehind (l : Launch) (g : zGl) (a0 : Nat → Nat) (o0 : Nat) (v0 : tPl) (p1 : Int32) (out : Int32) (hf : f_Pl_isBehind v0 p1 = some out) : zMz l yX3_isBehind cX3_isBehind 2 rm_Pl_isBehind g [.ref (a0 o0), .int p1] (W_Pl g a0 o0 (gPl_ints v0) (gPl_seconds v0) (gPl_engines v0) (gPl_wheels v0)) out (W_Pl g a0 o0 (gPl_ints v0) (gPl_seconds v0) (gPl_engines v0) (gPl_wheels v0)) := by
  refine zMz_of (lv := [(0, .ref (a0 o0)), (1, .int p1)]) (by decide) (Nat.le_of_ble_eq_true rfl) rfl (fun x hl hg C hret => ?_)
  subst hl; subst hg
  rw [f_Pl_isBehind] at hf
  refine r_aload_n C eX3_isBehind_0 0 rfl rfl ?_
  refine r_get (v := .int ((gPl_ints v0) 0)) C eX3_isBehind_1 FX3_25 0 rfl rfl ?_
  refine r_iconst C (v := 1) eX3_isBehind_4 (by decide) ?_
  refine r_icmp_lt C eX3_isBehind_5 (fun c1 => ?_) (fun c1 => ?_)
  · rw [if_pos c1] at hf
    refine r_iconst C (v := 1) eX3_isBehind_32 (by decide) ?_
    refine r_goto C eX3_isBehind_33 ?_
    obtain rfl := Option.some.inj (show some (1 : Int32) = some _ from hf)
    exact hret _ _ _ eX3_isBehind_37 zB1
  · rw [if_neg c1] at hf
    refine r_aload_n C eX3_isBehind_8 0 rfl rfl ?_
    refine r_get (v := .int ((gPl_ints v0) 0)) C eX3_isBehind_9 FX3_25 0 rfl rfl ?_
    refine r_bipush C (v := 20) eX3_isBehind_12 (by decide) ?_
    refine r_icmp_gt C eX3_isBehind_14 (fun c2 => ?_) (fun c2 => ?_)
    · rw [if_pos c2] at hf
      refine r_iconst C (v := 1) eX3_isBehind_32 (by decide) ?_
      refine r_goto C eX3_isBehind_33 ?_
      obtain rfl := Option.some.inj (show some (1 : Int32) = some _ from hf)
      exact hret _ _ _ eX3_isBehind_37 zB1
    · rw [if_neg c2] at hf
      refine r_iload_n C eX3_isBehind_17 1 rfl rfl ?_
      refine r_aload_n C eX3_isBehind_18 0 rfl rfl ?_
      refine r_get (v := .ref (a0 (o0 + 1))) C eX3_isBehind_19 FX3_9 0 rfl rfl ?_
      refine r_aload_n C eX3_isBehind_22 0 rfl rfl ?_
      refine r_get (v := .int ((gPl_ints v0) 0)) C eX3_isBehind_23 FX3_25 0 rfl rfl ?_
      refine r_iconst C (v := 1) eX3_isBehind_26 (by decide) ?_
      refine r_isub C eX3_isBehind_27 ?_
      obtain ⟨hb3, hf⟩ := zchk hf
      refine r_iald C eX3_isBehind_28 1 rfl (inb_in hb3) ((gPl_seconds v0) (ix (((gPl_ints v0) 0) - 1))) rfl ?_
      refine r_icmp_le C eX3_isBehind_29 (fun c4 => ?_) (fun c4 => ?_)
      · rw [if_pos c4] at hf
        refine r_iconst C (v := 0) eX3_isBehind_36 (by decide) ?_
        obtain rfl := Option.some.inj (show some (0 : Int32) = some _ from hf)
        exact hret _ _ _ eX3_isBehind_37 zB0
      · rw [if_neg c4] at hf
        refine r_iconst C (v := 1) eX3_isBehind_32 (by decide) ?_
        refine r_goto C eX3_isBehind_33 ?_
        obtain rfl := Option.some.inj (show some (1 : Int32) = some _ from hf)
        exact hret _ _ _ eX3_isBehind_37 zB1
theorem eX3_steer_0 : zd 1 cX3_steer 0 1 (.iload_n 2) := ⟨by decide +kernel, rfl⟩
theorem eX3_steer_1 : zdi cX3_steer 1 4 28 (.ifCond .lt) := ⟨27, by decide +kernel, rfl, by decide⟩
theorem eX3_steer_4 : zd 1 cX3_steer 4 5 (.iload_n 2) := ⟨by decide +kernel, rfl⟩
theorem eX3_steer_5 : zd 1 cX3_steer 5 6 (.aload_n 0) := ⟨by decide +kernel, rfl⟩
theorem eX3_steer_6 : zd 3 cX3_steer 6 9 (.getfield 25) := ⟨by decide +kernel, rfl⟩
theorem eX3_steer_9 : zdi cX3_steer 9 12 28 (.if_icmp .ge) := ⟨19, by decide +kernel, rfl, by decide⟩
theorem eX3_steer_12 : zd 1 cX3_steer 12 13 (.iload_n 2) := ⟨by decide +kernel, rfl⟩
theorem eX3_steer_13 : zd 2 cX3_steer 13 15 (.bipush 20) := ⟨by decide +kernel, rfl⟩
theorem eX3_steer_15 : zdi cX3_steer 15 18 28 (.if_icmp .ge) := ⟨13, by decide +kernel, rfl, by decide⟩
theorem eX3_steer_18 : zd 1 cX3_steer 18 19 (.aload_n 0) := ⟨by decide +kernel, rfl⟩
theorem eX3_steer_19 : zd 3 cX3_steer 19 22 (.getfield 9) := ⟨by decide +kernel, rfl⟩
theorem eX3_steer_22 : zd 1 cX3_steer 22 23 (.iload_n 2) := ⟨by decide +kernel, rfl⟩
theorem eX3_steer_23 : zd 1 cX3_steer 23 24 (.iaload) := ⟨by decide +kernel, rfl⟩
theorem eX3_steer_24 : zd 1 cX3_steer 24 25 (.iload_n 3) := ⟨by decide +kernel, rfl⟩
theorem eX3_steer_25 : zdi cX3_steer 25 28 30 (.if_icmp .eq) := ⟨5, by decide +kernel, rfl, by decide⟩
theorem eX3_steer_28 : zd 1 cX3_steer 28 29 (.iload_n 2) := ⟨by decide +kernel, rfl⟩
theorem eX3_steer_29 : zd 1 cX3_steer 29 30 (.ireturn) := ⟨by decide +kernel, rfl⟩
theorem eX3_steer_30 : zd 1 cX3_steer 30 31 (.aload_n 1) := ⟨by decide +kernel, rfl⟩
theorem eX3_steer_31 : zd 1 cX3_steer 31 32 (.aload_n 0) := ⟨by decide +kernel, rfl⟩
theorem eX3_steer_32 : zd 3 cX3_steer 32 35 (.getfield 13) := ⟨by decide +kernel, rfl⟩
theorem eX3_steer_35 : zd 1 cX3_steer 35 36 (.iload_n 2) := ⟨by decide +kernel, rfl⟩
theorem eX3_steer_36 : zd 1 cX3_steer 36 37 (.iaload) := ⟨by decide +kernel, rfl⟩
theorem eX3_steer_37 : zd 3 cX3_steer 37 40 (.putfield 29) := ⟨by decide +kernel, rfl⟩
theorem eX3_steer_40 : zd 1 cX3_steer 40 41 (.aload_n 1) := ⟨by decide +kernel, rfl⟩
theorem eX3_steer_41 : zd 1 cX3_steer 41 42 (.aload_n 0) := ⟨by decide +kernel, rfl⟩
theorem eX3_steer_42 : zd 3 cX3_steer 42 45 (.getfield 16) := ⟨by decide +kernel, rfl⟩
theorem eX3_steer_45 : zd 1 cX3_steer 45 46 (.iload_n 2) := ⟨by decide +kernel, rfl⟩
theorem eX3_steer_46 : zd 1 cX3_steer 46 47 (.iaload) := ⟨by decide +kernel, rfl⟩
theorem eX3_steer_47 : zd 3 cX3_steer 47 50 (.putfield 34) := ⟨by decide +kernel, rfl⟩
theorem eX3_steer_50 : zd 1 cX3_steer 50 51 (.iload_n 2) := ⟨by decide +kernel, rfl⟩
theorem eX3_steer_51 : zd 1 cX3_steer 51 52 (.iconst 1) := ⟨by decide +kernel, rfl⟩
theorem eX3_steer_52 : zd 1 cX3_steer 52 53 (.iadd) := ⟨by decide +kernel, rfl⟩
theorem eX3_steer_53 : zd 1 cX3_steer 53 54 (.ireturn) := ⟨by decide +kernel, rfl⟩
theorem PX3_29 : zlP RX3 29 7 6 .int := ⟨(RX7, TX7, 18), tyX7, rfl, by decide, q240, zin7, tyX7_ok, nmX7, rfl, by decide +kernel⟩
theorem PX3_34 : zlP RX3 34 7 7 .int := ⟨(RX7, TX7, 18), tyX7, rfl, by decide, q243, zin7, tyX7_ok, nmX7, rfl, by decide +kernel⟩
noncomputable def f_Pl_steer (v0 : tPl) (v1 : tSh) (p1 : Int32) (p2 : Int32) : Option (Int32 × (Nat → Int32)) := (if p1 < 0 then (some (p1, (gSh_ints v1))) else (if ((gPl_ints v0) 0) ≤ p1 then (some (p1, (gSh_ints v1))) else (if 20 ≤ p1 then (some (p1, (gSh_ints v1))) else (if inb p1 20 = true then (if ((gPl_seconds v0) (ix p1)) = p2 then (if inb p1 20 = true then (if inb p1 20 = true then (some ((p1 + 1), (upd (upd (gSh_ints v1) 6 ((gPl_engines v0) (ix p1))) 7 ((gPl_wheels v0) (ix p1))))) else none) else none) else (some (p1, (gSh_ints v1)))) else none))))
abbrev rm_Pl_steer : Room := { frames := 0, cells := 0, slots := 0, locals := 0 }
set_option maxHeartbeats 4000000 in
set_option maxRecDepth 100000 in
theorem c_Pl_steer (l : Launch) (g : zGl) (a0 : Nat → Nat) (o0 : Nat) (v0 : tPl) (a1 : Nat → Nat) (o1 : Nat) (v1 : tSh) (p1 : Int32) (p2 : Int32) (out : Int32 × (Nat → Int32)) (hf : f_Pl_steer v0 v1 p1 p2 = some out) : zMi l yX3_steer cX3_steer 4 rm_Pl_steer g [.ref (a0 o0), .ref (a1 o1), .int p1, .int p2] (W_Pl g a0 o0 (gPl_ints v0) (gPl_seconds v0) (gPl_engines v0) (gPl_wheels v0) ++ W_Sh g a1 o1 (gSh_ints v1) (gSh_harm v1) (gLi_fast (gSh_lines v1)) (gLi_place (gSh_lines v1)) (gLi_post (gSh_lines v1)) (gLi_length (gSh_lines v1))) (out.1) (W_Pl g a0 o0 (gPl_ints v0) (gPl_seconds v0) (gPl_engines v0) (gPl_wheels v0) ++ W_Sh g a1 o1 (out.2) (gSh_harm v1) (gLi_fast (gSh_lines v1)) (gLi_place (gSh_lines v1)) (gLi_post (gSh_lines v1)) (gLi_length (gSh_lines v1))) := by
  refine zMi_of (lv := [(0, .ref (a0 o0)), (1, .ref (a1 o1)), (2, .int p1), (3, .int p2)]) (by decide) (Nat.le_of_ble_eq_true rfl) rfl (fun x hl hg C hret => ?_)
  subst hl; subst hg
  rw [f_Pl_steer] at hf
  refine r_iload_n C eX3_steer_0 2 rfl rfl ?_
  refine r_if_lt C eX3_steer_1 (fun c1 => ?_) (fun c1 => ?_)
  · rw [if_pos c1] at hf
    refine r_iload_n C eX3_steer_28 2 rfl rfl ?_
    obtain rfl := Option.some.inj (show some ((p1, (gSh_ints v1)) : Int32 × (Nat → Int32)) = some _ from hf)
    exact hret _ _ _ eX3_steer_29
  · rw [if_neg c1] at hf
    refine r_iload_n C eX3_steer_4 2 rfl rfl ?_
    refine r_aload_n C eX3_steer_5 0 rfl rfl ?_
    refine r_get (v := .int ((gPl_ints v0) 0)) C eX3_steer_6 FX3_25 0 rfl rfl ?_
    refine r_icmp_ge C eX3_steer_9 (fun c2 => ?_) (fun c2 => ?_)
    · rw [if_pos c2] at hf
      refine r_iload_n C eX3_steer_28 2 rfl rfl ?_
      obtain rfl := Option.some.inj (show some ((p1, (gSh_ints v1)) : Int32 × (Nat → Int32)) = some _ from hf)
      exact hret _ _ _ eX3_steer_29
    · rw [if_neg c2] at hf
      refine r_iload_n C eX3_steer_12 2 rfl rfl ?_
      refine r_bipush C (v := 20) eX3_steer_13 (by decide) ?_
      refine r_icmp_ge C eX3_steer_15 (fun c3 => ?_) (fun c3 => ?_)
      · rw [if_pos c3] at hf
        refine r_iload_n C eX3_steer_28 2 rfl rfl ?_
        obtain rfl := Option.some.inj (show some ((p1, (gSh_ints v1)) : Int32 × (Nat → Int32)) = some _ from hf)
        exact hret _ _ _ eX3_steer_29
      · rw [if_neg c3] at hf
        refine r_aload_n C eX3_steer_18 0 rfl rfl ?_
        refine r_get (v := .ref (a0 (o0 + 1))) C eX3_steer_19 FX3_9 0 rfl rfl ?_
        refine r_iload_n C eX3_steer_22 2 rfl rfl ?_
        obtain ⟨hb4, hf⟩ := zchk hf
        refine r_iald C eX3_steer_23 1 rfl (inb_in hb4) ((gPl_seconds v0) (ix p1)) rfl ?_
        refine r_iload_n C eX3_steer_24 3 rfl rfl ?_
        refine r_icmp_eq C eX3_steer_25 (fun c5 => ?_) (fun c5 => ?_)
        · rw [if_pos c5] at hf
          refine r_aload_n C eX3_steer_30 1 rfl rfl ?_
          refine r_aload_n C eX3_steer_31 0 rfl rfl ?_
          refine r_get (v := .ref (a0 (o0 + 2))) C eX3_steer_32 FX3_13 0 rfl rfl ?_
          refine r_iload_n C eX3_steer_35 2 rfl rfl ?_
          obtain ⟨hb6, hf⟩ := zchk hf
          refine r_iald C eX3_steer_36 2 rfl (inb_in hb6) ((gPl_engines v0) (ix p1)) rfl ?_
          refine r_put (ws' := W_Pl (z_g x) a0 o0 (gPl_ints v0) (gPl_seconds v0) (gPl_engines v0) (gPl_wheels v0) ++ W_Sh (z_g x) a1 o1 (upd (gSh_ints v1) 6 ((gPl_engines v0) (ix p1))) (gSh_harm v1) (gLi_fast (gSh_lines v1)) (gLi_place (gSh_lines v1)) (gLi_post (gSh_lines v1)) (gLi_length (gSh_lines v1))) C eX3_steer_37 PX3_29 4 rfl rfl rfl (Nat.le_of_ble_eq_true rfl) rfl ?_
          refine r_aload_n C eX3_steer_40 1 rfl rfl ?_
          refine r_aload_n C eX3_steer_41 0 rfl rfl ?_
          refine r_get (v := .ref (a0 (o0 + 3))) C eX3_steer_42 FX3_16 0 rfl rfl ?_
          refine r_iload_n C eX3_steer_45 2 rfl rfl ?_
          obtain ⟨hb7, hf⟩ := zchk hf
          refine r_iald C eX3_steer_46 3 rfl (inb_in hb7) ((gPl_wheels v0) (ix p1)) rfl ?_
          refine r_put (ws' := W_Pl (z_g x) a0 o0 (gPl_ints v0) (gPl_seconds v0) (gPl_engines v0) (gPl_wheels v0) ++ W_Sh (z_g x) a1 o1 (upd (upd (gSh_ints v1) 6 ((gPl_engines v0) (ix p1))) 7 ((gPl_wheels v0) (ix p1))) (gSh_harm v1) (gLi_fast (gSh_lines v1)) (gLi_place (gSh_lines v1)) (gLi_post (gSh_lines v1)) (gLi_length (gSh_lines v1))) C eX3_steer_47 PX3_34 4 rfl rfl rfl (Nat.le_of_ble_eq_true rfl) rfl ?_
          refine r_iload_n C eX3_steer_50 2 rfl rfl ?_
          refine r_iconst C (v := 1) eX3_steer_51 (by decide) ?_
          refine r_iadd C eX3_steer_52 ?_
          obtain rfl := Option.some.inj (show some (((p1 + 1), (upd (upd (gSh_ints v1) 6 ((gPl_engines v0) (ix p1))) 7 ((gPl_wheels v0) (ix p1)))) : Int32 × (Nat → Int32)) = some _ from hf)
          exact hret _ _ _ eX3_steer_53
        · rw [if_neg c5] at hf
          refine r_iload_n C eX3_steer_28 2 rfl rfl ?_
          obtain rfl := Option.some.inj (show some ((p1, (gSh_ints v1)) : Int32 × (Nat → Int32)) = some _ from hf)
          exact hret _ _ _ eX3_steer_29
