def zfn (l : List Nat) : Nat → Nat := fun k => l.getD k 0
abbrev df0 : List Value := [.null, .null, .null, .int 0]
theorem dfl0 : ∀ j, j < 4 → defaultValue (tyX0 j) = vp_V df0 j
  | 0, _ => rfl
  | 1, _ => rfl
  | 2, _ => rfl
  | 3, _ => rfl
  | j + 4, h => absurd h (by omega)
abbrev df1 : List Value := [.null, .null, .null, .null]
theorem dfl1 : ∀ j, j < 4 → defaultValue (tyX1 j) = vp_V df1 j
  | 0, _ => rfl
  | 1, _ => rfl
  | 2, _ => rfl
  | 3, _ => rfl
  | j + 4, h => absurd h (by omega)
abbrev df2 : List Value := [.int 0, .null]
theorem dfl2 : ∀ j, j < 2 → defaultValue (tyX2 j) = vp_V df2 j
  | 0, _ => rfl
  | 1, _ => rfl
  | j + 2, h => absurd h (by omega)
abbrev df3 : List Value := [.int 0, .null, .null, .null]
theorem dfl3 : ∀ j, j < 4 → defaultValue (tyX3 j) = vp_V df3 j
  | 0, _ => rfl
  | 1, _ => rfl
  | 2, _ => rfl
  | 3, _ => rfl
  | j + 4, h => absurd h (by omega)
abbrev df4 : List Value := [.int 0, .int 0, .int 0, .int 0, .int 0, .int 0, .int 0, .int 0, .int 0, .int 0, .int 0, .int 0, .int 0, .int 0, .null, .null]
theorem dfl4 : ∀ j, j < 16 → defaultValue (tyX4 j) = vp_V df4 j
  | 0, _ => rfl
  | 1, _ => rfl
  | 2, _ => rfl
  | 3, _ => rfl
  | 4, _ => rfl
  | 5, _ => rfl
  | 6, _ => rfl
  | 7, _ => rfl
  | 8, _ => rfl
  | 9, _ => rfl
  | 10, _ => rfl
  | 11, _ => rfl
  | 12, _ => rfl
  | 13, _ => rfl
  | 14, _ => rfl
  | 15, _ => rfl
  | j + 16, h => absurd h (by omega)
abbrev df5 : List Value := [.null, .null, .null, .int 0, .int 0, .null, .null, .int 0]
theorem dfl5 : ∀ j, j < 8 → defaultValue (tyX5 j) = vp_V df5 j
  | 0, _ => rfl
  | 1, _ => rfl
  | 2, _ => rfl
  | 3, _ => rfl
  | 4, _ => rfl
  | 5, _ => rfl
  | 6, _ => rfl
  | 7, _ => rfl
  | j + 8, h => absurd h (by omega)
abbrev df6 : List Value := [.null, .null, .null]
theorem dfl6 : ∀ j, j < 3 → defaultValue (tyX6 j) = vp_V df6 j
  | 0, _ => rfl
  | 1, _ => rfl
  | 2, _ => rfl
  | j + 3, h => absurd h (by omega)
abbrev df7 : List Value := [.int 0, .int 0, .int 0, .int 0, .int 0, .int 0, .int 0, .int 0, .int 0, .int 0, .int 0, .int 0, .int 0, .long 0, .null, .int 0, .int 0, .int 0]
theorem dfl7 : ∀ j, j < 18 → defaultValue (tyX7 j) = vp_V df7 j
  | 0, _ => rfl
  | 1, _ => rfl
  | 2, _ => rfl
  | 3, _ => rfl
  | 4, _ => rfl
  | 5, _ => rfl
  | 6, _ => rfl
  | 7, _ => rfl
  | 8, _ => rfl
  | 9, _ => rfl
  | 10, _ => rfl
  | 11, _ => rfl
  | 12, _ => rfl
  | 13, _ => rfl
  | 14, _ => rfl
  | 15, _ => rfl
  | 16, _ => rfl
  | 17, _ => rfl
  | j + 18, h => absurd h (by omega)
abbrev df8 : List Value := [.null, .int 0]
theorem dfl8 : ∀ j, j < 2 → defaultValue (tyX8 j) = vp_V df8 j
  | 0, _ => rfl
  | 1, _ => rfl
  | j + 2, h => absurd h (by omega)
abbrev df9 : List Value := [.int 0, .null]
theorem dfl9 : ∀ j, j < 2 → defaultValue (tyX9 j) = vp_V df9 j
  | 0, _ => rfl
  | 1, _ => rfl
  | j + 2, h => absurd h (by omega)
abbrev df10 : List Value := [.null, .null, .null, .null, .null, .null, .null, .null, .null, .null, .null, .null, .null, .int 0, .int 0]
theorem dfl10 : ∀ j, j < 15 → defaultValue (tyX10 j) = vp_V df10 j
  | 0, _ => rfl
  | 1, _ => rfl
  | 2, _ => rfl
  | 3, _ => rfl
  | 4, _ => rfl
  | 5, _ => rfl
  | 6, _ => rfl
  | 7, _ => rfl
  | 8, _ => rfl
  | 9, _ => rfl
  | 10, _ => rfl
  | 11, _ => rfl
  | 12, _ => rfl
  | 13, _ => rfl
  | 14, _ => rfl
  | j + 15, h => absurd h (by omega)
abbrev df11 : List Value := [.null, .int 0, .null, .null, .int 0, .null, .int 0, .null, .null, .null, .null, .int 0, .int 0, .int 0, .long 0, .int 0, .int 0, .int 0, .null, .int 0, .null, .null, .int 0, .null, .int 0, .null, .int 0, .null, .null, .null, .int 0, .null, .null, .null]
theorem dfl11 : ∀ j, j < 34 → defaultValue (tyX11 j) = vp_V df11 j
  | 0, _ => rfl
  | 1, _ => rfl
  | 2, _ => rfl
  | 3, _ => rfl
  | 4, _ => rfl
  | 5, _ => rfl
  | 6, _ => rfl
  | 7, _ => rfl
  | 8, _ => rfl
  | 9, _ => rfl
  | 10, _ => rfl
  | 11, _ => rfl
  | 12, _ => rfl
  | 13, _ => rfl
  | 14, _ => rfl
  | 15, _ => rfl
  | 16, _ => rfl
  | 17, _ => rfl
  | 18, _ => rfl
  | 19, _ => rfl
  | 20, _ => rfl
  | 21, _ => rfl
  | 22, _ => rfl
  | 23, _ => rfl
  | 24, _ => rfl
  | 25, _ => rfl
  | 26, _ => rfl
  | 27, _ => rfl
  | 28, _ => rfl
  | 29, _ => rfl
  | 30, _ => rfl
  | 31, _ => rfl
  | 32, _ => rfl
  | 33, _ => rfl
  | j + 34, h => absurd h (by omega)
theorem eX1_init_0 : zd 1 cX1_init 0 1 (.aload_n 0) := ⟨by decide +kernel, rfl⟩
theorem eX1_init_1 : zd 3 cX1_init 1 4 (.invokespecial 1) := ⟨by decide +kernel, rfl⟩
theorem eX1_init_4 : zd 1 cX1_init 4 5 (.aload_n 0) := ⟨by decide +kernel, rfl⟩
theorem eX1_init_5 : zd 2 cX1_init 5 7 (.bipush 6) := ⟨by decide +kernel, rfl⟩
theorem eX1_init_7 : zd 2 cX1_init 7 9 (.newarray .boolean) := ⟨by decide +kernel, rfl⟩
theorem eX1_init_9 : zd 3 cX1_init 9 12 (.putfield 9) := ⟨by decide +kernel, rfl⟩
theorem eX1_init_12 : zd 1 cX1_init 12 13 (.aload_n 0) := ⟨by decide +kernel, rfl⟩
theorem eX1_init_13 : zd 2 cX1_init 13 15 (.bipush 6) := ⟨by decide +kernel, rfl⟩
theorem eX1_init_15 : zd 2 cX1_init 15 17 (.newarray .int) := ⟨by decide +kernel, rfl⟩
theorem eX1_init_17 : zd 3 cX1_init 17 20 (.putfield 13) := ⟨by decide +kernel, rfl⟩
theorem eX1_init_20 : zd 1 cX1_init 20 21 (.aload_n 0) := ⟨by decide +kernel, rfl⟩
theorem eX1_init_21 : zd 2 cX1_init 21 23 (.bipush 6) := ⟨by decide +kernel, rfl⟩
theorem eX1_init_23 : zd 2 cX1_init 23 25 (.newarray .int) := ⟨by decide +kernel, rfl⟩
theorem eX1_init_25 : zd 3 cX1_init 25 28 (.putfield 17) := ⟨by decide +kernel, rfl⟩
theorem eX1_init_28 : zd 1 cX1_init 28 29 (.aload_n 0) := ⟨by decide +kernel, rfl⟩
theorem eX1_init_29 : zd 2 cX1_init 29 31 (.bipush 6) := ⟨by decide +kernel, rfl⟩
theorem eX1_init_31 : zd 2 cX1_init 31 33 (.newarray .int) := ⟨by decide +kernel, rfl⟩
theorem eX1_init_33 : zd 3 cX1_init 33 36 (.putfield 20) := ⟨by decide +kernel, rfl⟩
theorem eX1_init_36 : zd 1 cX1_init 36 37 (.return_) := ⟨by decide +kernel, rfl⟩
theorem PFX1_9 : zlPF RX1 9 1 0 (.array .boolean) := ⟨(RX1, TX1, 4), tyX1, rfl, by decide, q207, zin1, tyX1_ok, nmX1, rfl, rfl, by decide +kernel⟩
theorem PFX1_13 : zlPF RX1 13 1 1 (.array .int) := ⟨(RX1, TX1, 4), tyX1, rfl, by decide, q210, zin1, tyX1_ok, nmX1, rfl, rfl, by decide +kernel⟩
theorem PFX1_17 : zlPF RX1 17 1 2 (.array .int) := ⟨(RX1, TX1, 4), tyX1, rfl, by decide, q214, zin1, tyX1_ok, nmX1, rfl, rfl, by decide +kernel⟩
theorem PFX1_20 : zlPF RX1 20 1 3 (.array .int) := ⟨(RX1, TX1, 4), tyX1, rfl, by decide, q218, zin1, tyX1_ok, nmX1, rfl, rfl, by decide +kernel⟩
abbrev rm_Li_init : Room := { frames := 1, cells := 4, slots := 24, locals := 20 }
abbrev d_Li : tLi := ((fun _ => 0), (fun _ => 0), (fun _ => 0), (fun _ => 0))
set_option maxHeartbeats 4000000 in
set_option maxRecDepth 100000 in
theorem c_Li_init (l : Launch) (g : zGl) (q0 : Nat) : zMc l yX1_init cX1_init 1 rm_Li_init 4 24 g q0 [(q0, .inr (1, df1))] (fun a => W_Li g a 0 (fun _ => 0) (fun _ => 0) (fun _ => 0) (fun _ => 0)) := by
  refine zMc_of (by decide) rfl (Nat.le_of_ble_eq_true rfl) (fun x hl hg C hme hret => ?_)
  subst hl; subst hg
  refine r_aload_n C eX1_init_0 0 rfl rfl ?_
  refine r_obj C eX1_init_1 q206 q25 q26 ⟨by decide, by decide⟩ rfl ?_
  refine r_aload_n C eX1_init_4 0 rfl rfl ?_
  refine r_bipush C (v := 6) eX1_init_5 (by decide) ?_
  refine r_newaZ C (N := 6) eX1_init_7 q230 (by decide) 1 6 (by decide) (fun q1 => ?_)
  refine r_putF (ws' := [(q0, .inr (1, [.ref q1, .null, .null, .null]))] ++ [(q1, .inl ((z_g x).2.1.2.2.1, 6, .inl (fun _ => 0)))]) C hme eX1_init_9 PFX1_9 0 rfl rfl rfl (Nat.le_of_ble_eq_true rfl) rfl ?_
  refine r_aload_n C eX1_init_12 0 rfl rfl ?_
  refine r_bipush C (v := 6) eX1_init_13 (by decide) ?_
  refine r_newaI C (N := 6) eX1_init_15 q42 (by decide) 2 12 (by decide) (fun q2 => ?_)
  refine r_putF (ws' := [(q0, .inr (1, [.ref q1, .ref q2, .null, .null]))] ++ [(q1, .inl ((z_g x).2.1.2.2.1, 6, .inl (fun _ => 0)))] ++ [(q2, .inl ((z_g x).2.1.1, 6, .inl (fun _ => 0)))]) C hme eX1_init_17 PFX1_13 0 rfl rfl rfl (Nat.le_of_ble_eq_true rfl) rfl ?_
  refine r_aload_n C eX1_init_20 0 rfl rfl ?_
  refine r_bipush C (v := 6) eX1_init_21 (by decide) ?_
  refine r_newaI C (N := 6) eX1_init_23 q42 (by decide) 3 18 (by decide) (fun q3 => ?_)
  refine r_putF (ws' := [(q0, .inr (1, [.ref q1, .ref q2, .ref q3, .null]))] ++ [(q1, .inl ((z_g x).2.1.2.2.1, 6, .inl (fun _ => 0)))] ++ [(q2, .inl ((z_g x).2.1.1, 6, .inl (fun _ => 0)))] ++ [(q3, .inl ((z_g x).2.1.1, 6, .inl (fun _ => 0)))]) C hme eX1_init_25 PFX1_17 0 rfl rfl rfl (Nat.le_of_ble_eq_true rfl) rfl ?_
  refine r_aload_n C eX1_init_28 0 rfl rfl ?_
  refine r_bipush C (v := 6) eX1_init_29 (by decide) ?_
  refine r_newaI C (N := 6) eX1_init_31 q42 (by decide) 4 24 (by decide) (fun q4 => ?_)
  refine r_putF (ws' := [(q0, .inr (1, [.ref q1, .ref q2, .ref q3, .ref q4]))] ++ [(q1, .inl ((z_g x).2.1.2.2.1, 6, .inl (fun _ => 0)))] ++ [(q2, .inl ((z_g x).2.1.1, 6, .inl (fun _ => 0)))] ++ [(q3, .inl ((z_g x).2.1.1, 6, .inl (fun _ => 0)))] ++ [(q4, .inl ((z_g x).2.1.1, 6, .inl (fun _ => 0)))]) C hme eX1_init_33 PFX1_20 0 rfl rfl rfl (Nat.le_of_ble_eq_true rfl) rfl ?_
  refine r_perm (ws' := W_Li (z_g x) (zfn [q0, q1, q2, q3, q4]) 0 (fun _ => 0) (fun _ => 0) (fun _ => 0) (fun _ => 0)) [0, 1, 2, 3, 4] rfl rfl ?_
  exact hret (zfn [q0, q1, q2, q3, q4]) _ _ _ rfl eX1_init_36
theorem eX3_init_0 : zd 1 cX3_init 0 1 (.aload_n 0) := ⟨by decide +kernel, rfl⟩
theorem eX3_init_1 : zd 3 cX3_init 1 4 (.invokespecial 1) := ⟨by decide +kernel, rfl⟩
theorem eX3_init_4 : zd 1 cX3_init 4 5 (.aload_n 0) := ⟨by decide +kernel, rfl⟩
theorem eX3_init_5 : zd 2 cX3_init 5 7 (.bipush 20) := ⟨by decide +kernel, rfl⟩
theorem eX3_init_7 : zd 2 cX3_init 7 9 (.newarray .int) := ⟨by decide +kernel, rfl⟩
theorem eX3_init_9 : zd 3 cX3_init 9 12 (.putfield 9) := ⟨by decide +kernel, rfl⟩
theorem eX3_init_12 : zd 1 cX3_init 12 13 (.aload_n 0) := ⟨by decide +kernel, rfl⟩
theorem eX3_init_13 : zd 2 cX3_init 13 15 (.bipush 20) := ⟨by decide +kernel, rfl⟩
theorem eX3_init_15 : zd 2 cX3_init 15 17 (.newarray .int) := ⟨by decide +kernel, rfl⟩
theorem eX3_init_17 : zd 3 cX3_init 17 20 (.putfield 13) := ⟨by decide +kernel, rfl⟩
theorem eX3_init_20 : zd 1 cX3_init 20 21 (.aload_n 0) := ⟨by decide +kernel, rfl⟩
theorem eX3_init_21 : zd 2 cX3_init 21 23 (.bipush 20) := ⟨by decide +kernel, rfl⟩
theorem eX3_init_23 : zd 2 cX3_init 23 25 (.newarray .int) := ⟨by decide +kernel, rfl⟩
theorem eX3_init_25 : zd 3 cX3_init 25 28 (.putfield 16) := ⟨by decide +kernel, rfl⟩
theorem eX3_init_28 : zd 1 cX3_init 28 29 (.return_) := ⟨by decide +kernel, rfl⟩
theorem PFX3_9 : zlPF RX3 9 3 1 (.array .int) := ⟨(RX3, TX3, 4), tyX3, rfl, by decide, q131, zin3, tyX3_ok, nmX3, rfl, rfl, by decide +kernel⟩
theorem PFX3_13 : zlPF RX3 13 3 2 (.array .int) := ⟨(RX3, TX3, 4), tyX3, rfl, by decide, q132, zin3, tyX3_ok, nmX3, rfl, rfl, by decide +kernel⟩
theorem PFX3_16 : zlPF RX3 16 3 3 (.array .int) := ⟨(RX3, TX3, 4), tyX3, rfl, by decide, q133, zin3, tyX3_ok, nmX3, rfl, rfl, by decide +kernel⟩
abbrev rm_Pl_init : Room := { frames := 1, cells := 3, slots := 60, locals := 20 }
abbrev d_Pl : tPl := ((fun _ => 0), (fun _ => 0), (fun _ => 0), (fun _ => 0))
set_option maxHeartbeats 4000000 in
set_option maxRecDepth 100000 in
theorem c_Pl_init (l : Launch) (g : zGl) (q0 : Nat) : zMc l yX3_init cX3_init 1 rm_Pl_init 3 60 g q0 [(q0, .inr (3, df3))] (fun a => W_Pl g a 0 (fun _ => 0) (fun _ => 0) (fun _ => 0) (fun _ => 0)) := by
  refine zMc_of (by decide) rfl (Nat.le_of_ble_eq_true rfl) (fun x hl hg C hme hret => ?_)
  subst hl; subst hg
  refine r_aload_n C eX3_init_0 0 rfl rfl ?_
  refine r_obj C eX3_init_1 q127 q25 q26 ⟨by decide, by decide⟩ rfl ?_
  refine r_aload_n C eX3_init_4 0 rfl rfl ?_
  refine r_bipush C (v := 20) eX3_init_5 (by decide) ?_
  refine r_newaI C (N := 20) eX3_init_7 q42 (by decide) 1 20 (by decide) (fun q1 => ?_)
  refine r_putF (ws' := [(q0, .inr (3, [.int 0, .ref q1, .null, .null]))] ++ [(q1, .inl ((z_g x).2.1.1, 20, .inl (fun _ => 0)))]) C hme eX3_init_9 PFX3_9 0 rfl rfl rfl (Nat.le_of_ble_eq_true rfl) rfl ?_
  refine r_aload_n C eX3_init_12 0 rfl rfl ?_
  refine r_bipush C (v := 20) eX3_init_13 (by decide) ?_
  refine r_newaI C (N := 20) eX3_init_15 q42 (by decide) 2 40 (by decide) (fun q2 => ?_)
  refine r_putF (ws' := [(q0, .inr (3, [.int 0, .ref q1, .ref q2, .null]))] ++ [(q1, .inl ((z_g x).2.1.1, 20, .inl (fun _ => 0)))] ++ [(q2, .inl ((z_g x).2.1.1, 20, .inl (fun _ => 0)))]) C hme eX3_init_17 PFX3_13 0 rfl rfl rfl (Nat.le_of_ble_eq_true rfl) rfl ?_
  refine r_aload_n C eX3_init_20 0 rfl rfl ?_
  refine r_bipush C (v := 20) eX3_init_21 (by decide) ?_
  refine r_newaI C (N := 20) eX3_init_23 q42 (by decide) 3 60 (by decide) (fun q3 => ?_)
  refine r_putF (ws' := [(q0, .inr (3, [.int 0, .ref q1, .ref q2, .ref q3]))] ++ [(q1, .inl ((z_g x).2.1.1, 20, .inl (fun _ => 0)))] ++ [(q2, .inl ((z_g x).2.1.1, 20, .inl (fun _ => 0)))] ++ [(q3, .inl ((z_g x).2.1.1, 20, .inl (fun _ => 0)))]) C hme eX3_init_25 PFX3_16 0 rfl rfl rfl (Nat.le_of_ble_eq_true rfl) rfl ?_
  refine r_perm (ws' := W_Pl (z_g x) (zfn [q0, q1, q2, q3]) 0 (fun _ => 0) (fun _ => 0) (fun _ => 0) (fun _ => 0)) [0, 1, 2, 3] rfl rfl ?_
  exact hret (zfn [q0, q1, q2, q3]) _ _ _ rfl eX3_init_28
theorem eX4_init_0 : zd 1 cX4_init 0 1 (.aload_n 0) := ⟨by decide +kernel, rfl⟩
theorem eX4_init_1 : zd 3 cX4_init 1 4 (.invokespecial 1) := ⟨by decide +kernel, rfl⟩
theorem eX4_init_4 : zd 1 cX4_init 4 5 (.aload_n 0) := ⟨by decide +kernel, rfl⟩
theorem eX4_init_5 : zd 2 cX4_init 5 7 (.bipush 12) := ⟨by decide +kernel, rfl⟩
theorem eX4_init_7 : zd 2 cX4_init 7 9 (.newarray .int) := ⟨by decide +kernel, rfl⟩
theorem eX4_init_9 : zd 3 cX4_init 9 12 (.putfield 9) := ⟨by decide +kernel, rfl⟩
theorem eX4_init_12 : zd 1 cX4_init 12 13 (.aload_n 0) := ⟨by decide +kernel, rfl⟩
theorem eX4_init_13 : zd 2 cX4_init 13 15 (.bipush 12) := ⟨by decide +kernel, rfl⟩
theorem eX4_init_15 : zd 2 cX4_init 15 17 (.newarray .int) := ⟨by decide +kernel, rfl⟩
theorem eX4_init_17 : zd 3 cX4_init 17 20 (.putfield 13) := ⟨by decide +kernel, rfl⟩
theorem eX4_init_20 : zd 1 cX4_init 20 21 (.return_) := ⟨by decide +kernel, rfl⟩
theorem PFX4_9 : zlPF RX4 9 4 14 (.array .int) := ⟨(RX4, TX4, 16), tyX4, rfl, by decide, q87, zin4, tyX4_ok, nmX4, rfl, rfl, by decide +kernel⟩
theorem PFX4_13 : zlPF RX4 13 4 15 (.array .int) := ⟨(RX4, TX4, 16), tyX4, rfl, by decide, q88, zin4, tyX4_ok, nmX4, rfl, rfl, by decide +kernel⟩
abbrev rm_Qu_init : Room := { frames := 1, cells := 2, slots := 24, locals := 20 }
abbrev d_Qu : tQu := ((fun _ => 0), (fun _ => 0), (fun _ => 0))
set_option maxHeartbeats 4000000 in
set_option maxRecDepth 100000 in
theorem c_Qu_init (l : Launch) (g : zGl) (q0 : Nat) : zMc l yX4_init cX4_init 1 rm_Qu_init 2 24 g q0 [(q0, .inr (4, df4))] (fun a => W_Qu g a 0 (fun _ => 0) (fun _ => 0) (fun _ => 0)) := by
  refine zMc_of (by decide) rfl (Nat.le_of_ble_eq_true rfl) (fun x hl hg C hme hret => ?_)
  subst hl; subst hg
  refine r_aload_n C eX4_init_0 0 rfl rfl ?_
  refine r_obj C eX4_init_1 q54 q25 q26 ⟨by decide, by decide⟩ rfl ?_
  refine r_aload_n C eX4_init_4 0 rfl rfl ?_
  refine r_bipush C (v := 12) eX4_init_5 (by decide) ?_
  refine r_newaI C (N := 12) eX4_init_7 q42 (by decide) 1 12 (by decide) (fun q1 => ?_)
  refine r_putF (ws' := [(q0, .inr (4, [.int 0, .int 0, .int 0, .int 0, .int 0, .int 0, .int 0, .int 0, .int 0, .int 0, .int 0, .int 0, .int 0, .int 0, .ref q1, .null]))] ++ [(q1, .inl ((z_g x).2.1.1, 12, .inl (fun _ => 0)))]) C hme eX4_init_9 PFX4_9 0 rfl rfl rfl (Nat.le_of_ble_eq_true rfl) rfl ?_
  refine r_aload_n C eX4_init_12 0 rfl rfl ?_
  refine r_bipush C (v := 12) eX4_init_13 (by decide) ?_
  refine r_newaI C (N := 12) eX4_init_15 q42 (by decide) 2 24 (by decide) (fun q2 => ?_)
  refine r_putF (ws' := [(q0, .inr (4, [.int 0, .int 0, .int 0, .int 0, .int 0, .int 0, .int 0, .int 0, .int 0, .int 0, .int 0, .int 0, .int 0, .int 0, .ref q1, .ref q2]))] ++ [(q1, .inl ((z_g x).2.1.1, 12, .inl (fun _ => 0)))] ++ [(q2, .inl ((z_g x).2.1.1, 12, .inl (fun _ => 0)))]) C hme eX4_init_17 PFX4_13 0 rfl rfl rfl (Nat.le_of_ble_eq_true rfl) rfl ?_
  refine r_perm (ws' := W_Qu (z_g x) (zfn [q0, q1, q2]) 0 (fun _ => 0) (fun _ => 0) (fun _ => 0)) [0, 1, 2] rfl rfl ?_
  exact hret (zfn [q0, q1, q2]) _ _ _ rfl eX4_init_20
theorem eX9_init_0 : zd 1 cX9_init 0 1 (.aload_n 0) := ⟨by decide +kernel, rfl⟩
theorem eX9_init_1 : zd 3 cX9_init 1 4 (.invokespecial 1) := ⟨by decide +kernel, rfl⟩
theorem eX9_init_4 : zd 1 cX9_init 4 5 (.aload_n 0) := ⟨by decide +kernel, rfl⟩
theorem eX9_init_5 : zd 2 cX9_init 5 7 (.bipush 24) := ⟨by decide +kernel, rfl⟩
theorem eX9_init_7 : zd 2 cX9_init 7 9 (.newarray .int) := ⟨by decide +kernel, rfl⟩
theorem eX9_init_9 : zd 3 cX9_init 9 12 (.putfield 9) := ⟨by decide +kernel, rfl⟩
theorem eX9_init_12 : zd 1 cX9_init 12 13 (.return_) := ⟨by decide +kernel, rfl⟩
theorem PFX9_9 : zlPF RX9 9 9 1 (.array .int) := ⟨(RX9, TX9, 2), tyX9, rfl, by decide, q153, zin9, tyX9_ok, nmX9, rfl, rfl, by decide +kernel⟩
abbrev rm_Ti_init : Room := { frames := 1, cells := 1, slots := 24, locals := 20 }
abbrev d_Ti : tTi := ((fun _ => 0), (fun _ => 0))
set_option maxHeartbeats 4000000 in
set_option maxRecDepth 100000 in
theorem c_Ti_init (l : Launch) (g : zGl) (q0 : Nat) : zMc l yX9_init cX9_init 1 rm_Ti_init 1 24 g q0 [(q0, .inr (9, df9))] (fun a => W_Ti g a 0 (fun _ => 0) (fun _ => 0)) := by
  refine zMc_of (by decide) rfl (Nat.le_of_ble_eq_true rfl) (fun x hl hg C hme hret => ?_)
  subst hl; subst hg
  refine r_aload_n C eX9_init_0 0 rfl rfl ?_
  refine r_obj C eX9_init_1 q148 q25 q26 ⟨by decide, by decide⟩ rfl ?_
  refine r_aload_n C eX9_init_4 0 rfl rfl ?_
  refine r_bipush C (v := 24) eX9_init_5 (by decide) ?_
  refine r_newaI C (N := 24) eX9_init_7 q42 (by decide) 1 24 (by decide) (fun q1 => ?_)
  refine r_putF (ws' := [(q0, .inr (9, [.int 0, .ref q1]))] ++ [(q1, .inl ((z_g x).2.1.1, 24, .inl (fun _ => 0)))]) C hme eX9_init_9 PFX9_9 0 rfl rfl rfl (Nat.le_of_ble_eq_true rfl) rfl ?_
  refine r_perm (ws' := W_Ti (z_g x) (zfn [q0, q1]) 0 (fun _ => 0) (fun _ => 0)) [0, 1] rfl rfl ?_
  exact hret (zfn [q0, q1]) _ _ _ rfl eX9_init_12
theorem eX8_init_0 : zd 1 cX8_init 0 1 (.aload_n 0) := ⟨by decide +kernel, rfl⟩
theorem eX8_init_1 : zd 3 cX8_init 1 4 (.invokespecial 1) := ⟨by decide +kernel, rfl⟩
theorem eX8_init_4 : zd 1 cX8_init 4 5 (.aload_n 0) := ⟨by decide +kernel, rfl⟩
theorem eX8_init_5 : zd 3 cX8_init 5 8 (.sipush 300) := ⟨by decide +kernel, rfl⟩
theorem eX8_init_8 : zd 2 cX8_init 8 10 (.newarray .int) := ⟨by decide +kernel, rfl⟩
theorem eX8_init_10 : zd 3 cX8_init 10 13 (.putfield 9) := ⟨by decide +kernel, rfl⟩
theorem eX8_init_13 : zd 1 cX8_init 13 14 (.return_) := ⟨by decide +kernel, rfl⟩
theorem PFX8_9 : zlPF RX8 9 8 0 (.array .int) := ⟨(RX8, TX8, 2), tyX8, rfl, by decide, q33, zin8, tyX8_ok, nmX8, rfl, rfl, by decide +kernel⟩
abbrev rm_Te_init : Room := { frames := 1, cells := 1, slots := 300, locals := 20 }
abbrev d_Te : tTe := ((fun _ => 0), (fun _ => 0))
set_option maxHeartbeats 4000000 in
set_option maxRecDepth 100000 in
theorem c_Te_init (l : Launch) (g : zGl) (q0 : Nat) : zMc l yX8_init cX8_init 1 rm_Te_init 1 300 g q0 [(q0, .inr (8, df8))] (fun a => W_Te g a 0 (fun _ => 0) (fun _ => 0)) := by
  refine zMc_of (by decide) rfl (Nat.le_of_ble_eq_true rfl) (fun x hl hg C hme hret => ?_)
  subst hl; subst hg
  refine r_aload_n C eX8_init_0 0 rfl rfl ?_
  refine r_obj C eX8_init_1 q32 q25 q26 ⟨by decide, by decide⟩ rfl ?_
  refine r_aload_n C eX8_init_4 0 rfl rfl ?_
  refine r_sipush C (v := 300) eX8_init_5 (by decide) ?_
  refine r_newaI C (N := 300) eX8_init_8 q42 (by decide) 1 300 (by decide) (fun q1 => ?_)
  refine r_putF (ws' := [(q0, .inr (8, [.ref q1, .int 0]))] ++ [(q1, .inl ((z_g x).2.1.1, 300, .inl (fun _ => 0)))]) C hme eX8_init_10 PFX8_9 0 rfl rfl rfl (Nat.le_of_ble_eq_true rfl) rfl ?_
  refine r_perm (ws' := W_Te (z_g x) (zfn [q0, q1]) 0 (fun _ => 0) (fun _ => 0)) [0, 1] rfl rfl ?_
  exact hret (zfn [q0, q1]) _ _ _ rfl eX8_init_13
theorem eX2_init_0 : zd 1 cX2_init 0 1 (.aload_n 0) := ⟨by decide +kernel, rfl⟩
theorem eX2_init_1 : zd 3 cX2_init 1 4 (.invokespecial 3) := ⟨by decide +kernel, rfl⟩
theorem eX2_init_4 : zd 1 cX2_init 4 5 (.aload_n 0) := ⟨by decide +kernel, rfl⟩
theorem eX2_init_5 : zd 2 cX2_init 5 7 (.bipush 24) := ⟨by decide +kernel, rfl⟩
theorem eX2_init_7 : zd 2 cX2_init 7 9 (.newarray .int) := ⟨by decide +kernel, rfl⟩
theorem eX2_init_9 : zd 3 cX2_init 9 12 (.putfield 11) := ⟨by decide +kernel, rfl⟩
theorem eX2_init_12 : zd 1 cX2_init 12 13 (.return_) := ⟨by decide +kernel, rfl⟩
theorem PFX2_11 : zlPF RX2 11 2 1 (.array .int) := ⟨(RX2, TX2, 2), tyX2, rfl, by decide, q327, zin2, tyX2_ok, nmX2, rfl, rfl, by decide +kernel⟩
abbrev rm_Ni_init : Room := { frames := 1, cells := 1, slots := 24, locals := 20 }
abbrev d_Ni : tNi := ((fun _ => 0), (fun _ => 0))
set_option maxHeartbeats 4000000 in
set_option maxRecDepth 100000 in
theorem c_Ni_init (l : Launch) (g : zGl) (q0 : Nat) : zMc l yX2_init cX2_init 1 rm_Ni_init 1 24 g q0 [(q0, .inr (2, df2))] (fun a => W_Ni g a 0 (fun _ => 0) (fun _ => 0)) := by
  refine zMc_of (by decide) rfl (Nat.le_of_ble_eq_true rfl) (fun x hl hg C hme hret => ?_)
  subst hl; subst hg
  refine r_aload_n C eX2_init_0 0 rfl rfl ?_
  refine r_obj C eX2_init_1 q324 q25 q26 ⟨by decide, by decide⟩ rfl ?_
  refine r_aload_n C eX2_init_4 0 rfl rfl ?_
  refine r_bipush C (v := 24) eX2_init_5 (by decide) ?_
  refine r_newaI C (N := 24) eX2_init_7 q42 (by decide) 1 24 (by decide) (fun q1 => ?_)
  refine r_putF (ws' := [(q0, .inr (2, [.int 0, .ref q1]))] ++ [(q1, .inl ((z_g x).2.1.1, 24, .inl (fun _ => 0)))]) C hme eX2_init_9 PFX2_11 0 rfl rfl rfl (Nat.le_of_ble_eq_true rfl) rfl ?_
  refine r_perm (ws' := W_Ni (z_g x) (zfn [q0, q1]) 0 (fun _ => 0) (fun _ => 0)) [0, 1] rfl rfl ?_
  exact hret (zfn [q0, q1]) _ _ _ rfl eX2_init_12
theorem eX0_init_0 : zd 1 cX0_init 0 1 (.aload_n 0) := ⟨by decide +kernel, rfl⟩
theorem eX0_init_1 : zd 3 cX0_init 1 4 (.invokespecial 5) := ⟨by decide +kernel, rfl⟩
theorem eX0_init_4 : zd 1 cX0_init 4 5 (.aload_n 0) := ⟨by decide +kernel, rfl⟩
theorem eX0_init_5 : zd 2 cX0_init 5 7 (.bipush 6) := ⟨by decide +kernel, rfl⟩
theorem eX0_init_7 : zd 2 cX0_init 7 9 (.newarray .int) := ⟨by decide +kernel, rfl⟩
theorem eX0_init_9 : zd 3 cX0_init 9 12 (.putfield 11) := ⟨by decide +kernel, rfl⟩
theorem eX0_init_12 : zd 1 cX0_init 12 13 (.aload_n 0) := ⟨by decide +kernel, rfl⟩
theorem eX0_init_13 : zd 2 cX0_init 13 15 (.bipush 6) := ⟨by decide +kernel, rfl⟩
theorem eX0_init_15 : zd 2 cX0_init 15 17 (.newarray .int) := ⟨by decide +kernel, rfl⟩
theorem eX0_init_17 : zd 3 cX0_init 17 20 (.putfield 17) := ⟨by decide +kernel, rfl⟩
theorem eX0_init_20 : zd 1 cX0_init 20 21 (.aload_n 0) := ⟨by decide +kernel, rfl⟩
theorem eX0_init_21 : zd 2 cX0_init 21 23 (.bipush 64) := ⟨by decide +kernel, rfl⟩
theorem eX0_init_23 : zd 2 cX0_init 23 25 (.newarray .int) := ⟨by decide +kernel, rfl⟩
theorem eX0_init_25 : zd 3 cX0_init 25 28 (.putfield 20) := ⟨by decide +kernel, rfl⟩
theorem eX0_init_28 : zd 1 cX0_init 28 29 (.return_) := ⟨by decide +kernel, rfl⟩
theorem PFX0_11 : zlPF RX0 11 0 0 (.array .int) := ⟨(RX0, TX0, 4), tyX0, rfl, by decide, q339, zin0, tyX0_ok, nmX0, rfl, rfl, by decide +kernel⟩
theorem PFX0_17 : zlPF RX0 17 0 1 (.array .int) := ⟨(RX0, TX0, 4), tyX0, rfl, by decide, q340, zin0, tyX0_ok, nmX0, rfl, rfl, by decide +kernel⟩
theorem PFX0_20 : zlPF RX0 20 0 2 (.array .int) := ⟨(RX0, TX0, 4), tyX0, rfl, by decide, q341, zin0, tyX0_ok, nmX0, rfl, rfl, by decide +kernel⟩
abbrev rm_Lg_init : Room := { frames := 1, cells := 3, slots := 76, locals := 20 }
abbrev d_Lg : tLg := ((fun _ => 0), (fun _ => 0), (fun _ => 0), (fun _ => 0))
set_option maxHeartbeats 4000000 in
set_option maxRecDepth 100000 in
theorem c_Lg_init (l : Launch) (g : zGl) (q0 : Nat) : zMc l yX0_init cX0_init 1 rm_Lg_init 3 76 g q0 [(q0, .inr (0, df0))] (fun a => W_Lg g a 0 (fun _ => 0) (fun _ => 0) (fun _ => 0) (fun _ => 0)) := by
  refine zMc_of (by decide) rfl (Nat.le_of_ble_eq_true rfl) (fun x hl hg C hme hret => ?_)
  subst hl; subst hg
  refine r_aload_n C eX0_init_0 0 rfl rfl ?_
  refine r_obj C eX0_init_1 q338 q25 q26 ⟨by decide, by decide⟩ rfl ?_
  refine r_aload_n C eX0_init_4 0 rfl rfl ?_
  refine r_bipush C (v := 6) eX0_init_5 (by decide) ?_
  refine r_newaI C (N := 6) eX0_init_7 q42 (by decide) 1 6 (by decide) (fun q1 => ?_)
  refine r_putF (ws' := [(q0, .inr (0, [.ref q1, .null, .null, .int 0]))] ++ [(q1, .inl ((z_g x).2.1.1, 6, .inl (fun _ => 0)))]) C hme eX0_init_9 PFX0_11 0 rfl rfl rfl (Nat.le_of_ble_eq_true rfl) rfl ?_
  refine r_aload_n C eX0_init_12 0 rfl rfl ?_
  refine r_bipush C (v := 6) eX0_init_13 (by decide) ?_
  refine r_newaI C (N := 6) eX0_init_15 q42 (by decide) 2 12 (by decide) (fun q2 => ?_)
  refine r_putF (ws' := [(q0, .inr (0, [.ref q1, .ref q2, .null, .int 0]))] ++ [(q1, .inl ((z_g x).2.1.1, 6, .inl (fun _ => 0)))] ++ [(q2, .inl ((z_g x).2.1.1, 6, .inl (fun _ => 0)))]) C hme eX0_init_17 PFX0_17 0 rfl rfl rfl (Nat.le_of_ble_eq_true rfl) rfl ?_
  refine r_aload_n C eX0_init_20 0 rfl rfl ?_
  refine r_bipush C (v := 64) eX0_init_21 (by decide) ?_
  refine r_newaI C (N := 64) eX0_init_23 q42 (by decide) 3 76 (by decide) (fun q3 => ?_)
  refine r_putF (ws' := [(q0, .inr (0, [.ref q1, .ref q2, .ref q3, .int 0]))] ++ [(q1, .inl ((z_g x).2.1.1, 6, .inl (fun _ => 0)))] ++ [(q2, .inl ((z_g x).2.1.1, 6, .inl (fun _ => 0)))] ++ [(q3, .inl ((z_g x).2.1.1, 64, .inl (fun _ => 0)))]) C hme eX0_init_25 PFX0_20 0 rfl rfl rfl (Nat.le_of_ble_eq_true rfl) rfl ?_
  refine r_perm (ws' := W_Lg (z_g x) (zfn [q0, q1, q2, q3]) 0 (fun _ => 0) (fun _ => 0) (fun _ => 0) (fun _ => 0)) [0, 1, 2, 3] rfl rfl ?_
  exact hret (zfn [q0, q1, q2, q3]) _ _ _ rfl eX0_init_28
theorem eX7_init_0 : zd 1 cX7_init 0 1 (.aload_n 0) := ⟨by decide +kernel, rfl⟩
theorem eX7_init_1 : zd 3 cX7_init 1 4 (.invokespecial 1) := ⟨by decide +kernel, rfl⟩
theorem eX7_init_4 : zd 1 cX7_init 4 5 (.aload_n 0) := ⟨by decide +kernel, rfl⟩
theorem eX7_init_5 : zd 3 cX7_init 5 8 (.new 7) := ⟨by decide +kernel, rfl⟩
theorem eX7_init_8 : zd 1 cX7_init 8 9 (.dup) := ⟨by decide +kernel, rfl⟩
theorem eX7_init_9 : zd 3 cX7_init 9 12 (.invokespecial 9) := ⟨by decide +kernel, rfl⟩
theorem eX7_init_12 : zd 3 cX7_init 12 15 (.putfield 10) := ⟨by decide +kernel, rfl⟩
theorem eX7_init_15 : zd 1 cX7_init 15 16 (.return_) := ⟨by decide +kernel, rfl⟩
theorem NX7_7 : zlW RX7 7 1 4 tyX1 := ⟨(RX1, TX1, 4), rfl, rfl, q201, q202, q8, zin1, tyX1_ok⟩
theorem IX7_9 : zlI RX7 9 yX1_init cX1_init 1 := ⟨Or.inr ⟨_, qn203⟩, q204, q8, q205, rfl, by decide, by decide, by decide +kernel⟩
theorem PFX7_10 : zlPF RX7 10 7 14 (.object "AlongsideLines$Lines") := ⟨(RX7, TX7, 18), tyX7, rfl, by decide, q255, zin7, tyX7_ok, nmX7, rfl, rfl, by decide +kernel⟩
abbrev rm_Sh_init : Room := { frames := 2, cells := 5, slots := 28, locals := 40 }
abbrev d_Sh : tSh := ((fun _ => 0), 0, ((fun _ => 0), (fun _ => 0), (fun _ => 0), (fun _ => 0)))
set_option maxHeartbeats 4000000 in
set_option maxRecDepth 100000 in
theorem c_Sh_init (l : Launch) (g : zGl) (q0 : Nat) : zMc l yX7_init cX7_init 1 rm_Sh_init 5 28 g q0 [(q0, .inr (7, df7))] (fun a => W_Sh g a 0 (fun _ => 0) 0 (fun _ => 0) (fun _ => 0) (fun _ => 0) (fun _ => 0)) := by
  refine zMc_of (by decide) rfl (Nat.le_of_ble_eq_true rfl) (fun x hl hg C hme hret => ?_)
  subst hl; subst hg
  refine r_aload_n C eX7_init_0 0 rfl rfl ?_
  refine r_obj C eX7_init_1 q200 q25 q26 ⟨by decide, by decide⟩ rfl ?_
  refine r_aload_n C eX7_init_4 0 rfl rfl ?_
  refine r_new C (fs := df1) eX7_init_5 NX7_7 dfl1 1 4 (by decide) (fun q1 => ?_)
  refine r_dup C eX7_init_8 rfl ?_
  refine r_ctor C (c_Li_init (z_l x) (z_g x) q1) eX7_init_9 IX7_9 rfl rfl 5 28 (by decide) (fun b1 hb1 => ?_)
  subst hb1
  refine r_putF (ws' := [(q0, .inr (7, [.int 0, .int 0, .int 0, .int 0, .int 0, .int 0, .int 0, .int 0, .int 0, .int 0, .int 0, .int 0, .int 0, .long 0, .ref (b1 0), .int 0, .int 0, .int 0]))] ++ W_Li (z_g x) b1 0 (fun _ => 0) (fun _ => 0) (fun _ => 0) (fun _ => 0)) C hme eX7_init_12 PFX7_10 0 rfl rfl rfl (Nat.le_of_ble_eq_true rfl) rfl ?_
  refine r_perm (ws' := W_Sh (z_g x) (zfn [q0, (b1 0), (b1 (0 + 1)), (b1 (0 + 2)), (b1 (0 + 3)), (b1 (0 + 4))]) 0 (fun _ => 0) 0 (fun _ => 0) (fun _ => 0) (fun _ => 0) (fun _ => 0)) [0, 1, 2, 3, 4, 5] rfl rfl ?_
  exact hret (zfn [q0, (b1 0), (b1 (0 + 1)), (b1 (0 + 2)), (b1 (0 + 3)), (b1 (0 + 4))]) _ _ _ rfl eX7_init_15
theorem eX5_init_0 : zd 1 cX5_init 0 1 (.aload_n 0) := ⟨by decide +kernel, rfl⟩
theorem eX5_init_1 : zd 3 cX5_init 1 4 (.invokespecial 3) := ⟨by decide +kernel, rfl⟩
theorem eX5_init_4 : zd 1 cX5_init 4 5 (.aload_n 0) := ⟨by decide +kernel, rfl⟩
theorem eX5_init_5 : zd 3 cX5_init 5 8 (.new 9) := ⟨by decide +kernel, rfl⟩
theorem eX5_init_8 : zd 1 cX5_init 8 9 (.dup) := ⟨by decide +kernel, rfl⟩
theorem eX5_init_9 : zd 3 cX5_init 9 12 (.invokespecial 11) := ⟨by decide +kernel, rfl⟩
theorem eX5_init_12 : zd 3 cX5_init 12 15 (.putfield 12) := ⟨by decide +kernel, rfl⟩
theorem eX5_init_15 : zd 1 cX5_init 15 16 (.aload_n 0) := ⟨by decide +kernel, rfl⟩
theorem eX5_init_16 : zd 3 cX5_init 16 19 (.new 18) := ⟨by decide +kernel, rfl⟩
theorem eX5_init_19 : zd 1 cX5_init 19 20 (.dup) := ⟨by decide +kernel, rfl⟩
theorem eX5_init_20 : zd 3 cX5_init 20 23 (.invokespecial 20) := ⟨by decide +kernel, rfl⟩
theorem eX5_init_23 : zd 3 cX5_init 23 26 (.putfield 21) := ⟨by decide +kernel, rfl⟩
theorem eX5_init_26 : zd 1 cX5_init 26 27 (.aload_n 0) := ⟨by decide +kernel, rfl⟩
theorem eX5_init_27 : zd 3 cX5_init 27 30 (.new 25) := ⟨by decide +kernel, rfl⟩
theorem eX5_init_30 : zd 1 cX5_init 30 31 (.dup) := ⟨by decide +kernel, rfl⟩
theorem eX5_init_31 : zd 3 cX5_init 31 34 (.invokespecial 27) := ⟨by decide +kernel, rfl⟩
theorem eX5_init_34 : zd 3 cX5_init 34 37 (.putfield 28) := ⟨by decide +kernel, rfl⟩
theorem eX5_init_37 : zd 1 cX5_init 37 38 (.aload_n 0) := ⟨by decide +kernel, rfl⟩
theorem eX5_init_38 : zd 2 cX5_init 38 40 (.bipush 11) := ⟨by decide +kernel, rfl⟩
theorem eX5_init_40 : zd 2 cX5_init 40 42 (.newarray .int) := ⟨by decide +kernel, rfl⟩
theorem eX5_init_42 : zd 3 cX5_init 42 45 (.putfield 32) := ⟨by decide +kernel, rfl⟩
theorem eX5_init_45 : zd 1 cX5_init 45 46 (.aload_n 0) := ⟨by decide +kernel, rfl⟩
theorem eX5_init_46 : zd 1 cX5_init 46 47 (.iconst 3) := ⟨by decide +kernel, rfl⟩
theorem eX5_init_47 : zd 2 cX5_init 47 49 (.newarray .int) := ⟨by decide +kernel, rfl⟩
theorem eX5_init_49 : zd 3 cX5_init 49 52 (.putfield 36) := ⟨by decide +kernel, rfl⟩
theorem eX5_init_52 : zd 1 cX5_init 52 53 (.return_) := ⟨by decide +kernel, rfl⟩
theorem NX5_9 : zlW RX5 9 4 16 tyX4 := ⟨(RX4, TX4, 16), rfl, rfl, q49, q50, q4, zin4, tyX4_ok⟩
theorem IX5_11 : zlI RX5 11 yX4_init cX4_init 1 := ⟨Or.inr ⟨_, qn51⟩, q52, q4, q53, rfl, by decide, by decide, by decide +kernel⟩
theorem PFX5_12 : zlPF RX5 12 5 0 (.object "AlongsideLines$Quay") := ⟨(RX5, TX5, 8), tyX5, rfl, by decide, q159, zin5, tyX5_ok, nmX5, rfl, rfl, by decide +kernel⟩
theorem NX5_18 : zlW RX5 18 3 4 tyX3 := ⟨(RX3, TX3, 4), rfl, rfl, q122, q123, q5, zin3, tyX3_ok⟩
theorem IX5_20 : zlI RX5 20 yX3_init cX3_init 1 := ⟨Or.inr ⟨_, qn124⟩, q125, q5, q126, rfl, by decide, by decide, by decide +kernel⟩
theorem PFX5_21 : zlPF RX5 21 5 1 (.object "AlongsideLines$Plan") := ⟨(RX5, TX5, 8), tyX5, rfl, by decide, q161, zin5, tyX5_ok, nmX5, rfl, rfl, by decide +kernel⟩
theorem NX5_25 : zlW RX5 25 9 2 tyX9 := ⟨(RX9, TX9, 2), rfl, rfl, q143, q144, q6, zin9, tyX9_ok⟩
theorem IX5_27 : zlI RX5 27 yX9_init cX9_init 1 := ⟨Or.inr ⟨_, qn145⟩, q146, q6, q147, rfl, by decide, by decide, by decide +kernel⟩
theorem PFX5_28 : zlPF RX5 28 5 2 (.object "AlongsideLines$Tide") := ⟨(RX5, TX5, 8), tyX5, rfl, by decide, q163, zin5, tyX5_ok, nmX5, rfl, rfl, by decide +kernel⟩
theorem PFX5_32 : zlPF RX5 32 5 5 (.array .int) := ⟨(RX5, TX5, 8), tyX5, rfl, by decide, q169, zin5, tyX5_ok, nmX5, rfl, rfl, by decide +kernel⟩
theorem PFX5_36 : zlPF RX5 36 5 6 (.array .int) := ⟨(RX5, TX5, 8), tyX5, rfl, by decide, q170, zin5, tyX5_ok, nmX5, rfl, rfl, by decide +kernel⟩
abbrev rm_Re_init : Room := { frames := 2, cells := 11, slots := 144, locals := 40 }
abbrev d_Re : tRe := ((fun _ => 0), ((fun _ => 0), (fun _ => 0), (fun _ => 0)), ((fun _ => 0), (fun _ => 0), (fun _ => 0), (fun _ => 0)), ((fun _ => 0), (fun _ => 0)), (fun _ => 0), (fun _ => 0))
set_option maxHeartbeats 4000000 in
set_option maxRecDepth 100000 in
theorem c_Re_init (l : Launch) (g : zGl) (q0 : Nat) : zMc l yX5_init cX5_init 1 rm_Re_init 11 144 g q0 [(q0, .inr (5, df5))] (fun a => W_Re g a 0 (fun _ => 0) (fun _ => 0) (fun _ => 0) (fun _ => 0) (fun _ => 0) (fun _ => 0) (fun _ => 0) (fun _ => 0) (fun _ => 0) (fun _ => 0) (fun _ => 0) (fun _ => 0)) := by
  refine zMc_of (by decide) rfl (Nat.le_of_ble_eq_true rfl) (fun x hl hg C hme hret => ?_)
  subst hl; subst hg
  refine r_aload_n C eX5_init_0 0 rfl rfl ?_
  refine r_obj C eX5_init_1 q48 q25 q26 ⟨by decide, by decide⟩ rfl ?_
  refine r_aload_n C eX5_init_4 0 rfl rfl ?_
  refine r_new C (fs := df4) eX5_init_5 NX5_9 dfl4 1 16 (by decide) (fun q1 => ?_)
  refine r_dup C eX5_init_8 rfl ?_
  refine r_ctor C (c_Qu_init (z_l x) (z_g x) q1) eX5_init_9 IX5_11 rfl rfl 3 40 (by decide) (fun b1 hb1 => ?_)
  subst hb1
  refine r_putF (ws' := [(q0, .inr (5, [.ref (b1 0), .null, .null, .int 0, .int 0, .null, .null, .int 0]))] ++ W_Qu (z_g x) b1 0 (fun _ => 0) (fun _ => 0) (fun _ => 0)) C hme eX5_init_12 PFX5_12 0 rfl rfl rfl (Nat.le_of_ble_eq_true rfl) rfl ?_
  refine r_aload_n C eX5_init_15 0 rfl rfl ?_
  refine r_new C (fs := df3) eX5_init_16 NX5_18 dfl3 4 44 (by decide) (fun q2 => ?_)
  refine r_dup C eX5_init_19 rfl ?_
  refine r_ctor C (c_Pl_init (z_l x) (z_g x) q2) eX5_init_20 IX5_20 rfl rfl 7 104 (by decide) (fun b2 hb2 => ?_)
  subst hb2
  refine r_putF (ws' := [(q0, .inr (5, [.ref (b1 0), .ref (b2 0), .null, .int 0, .int 0, .null, .null, .int 0]))] ++ W_Qu (z_g x) b1 0 (fun _ => 0) (fun _ => 0) (fun _ => 0) ++ W_Pl (z_g x) b2 0 (fun _ => 0) (fun _ => 0) (fun _ => 0) (fun _ => 0)) C hme eX5_init_23 PFX5_21 0 rfl rfl rfl (Nat.le_of_ble_eq_true rfl) rfl ?_
  refine r_aload_n C eX5_init_26 0 rfl rfl ?_
  refine r_new C (fs := df9) eX5_init_27 NX5_25 dfl9 8 106 (by decide) (fun q3 => ?_)
  refine r_dup C eX5_init_30 rfl ?_
  refine r_ctor C (c_Ti_init (z_l x) (z_g x) q3) eX5_init_31 IX5_27 rfl rfl 9 130 (by decide) (fun b3 hb3 => ?_)
  subst hb3
  refine r_putF (ws' := [(q0, .inr (5, [.ref (b1 0), .ref (b2 0), .ref (b3 0), .int 0, .int 0, .null, .null, .int 0]))] ++ W_Qu (z_g x) b1 0 (fun _ => 0) (fun _ => 0) (fun _ => 0) ++ W_Pl (z_g x) b2 0 (fun _ => 0) (fun _ => 0) (fun _ => 0) (fun _ => 0) ++ W_Ti (z_g x) b3 0 (fun _ => 0) (fun _ => 0)) C hme eX5_init_34 PFX5_28 0 rfl rfl rfl (Nat.le_of_ble_eq_true rfl) rfl ?_
  refine r_aload_n C eX5_init_37 0 rfl rfl ?_
  refine r_bipush C (v := 11) eX5_init_38 (by decide) ?_
  refine r_newaI C (N := 11) eX5_init_40 q42 (by decide) 10 141 (by decide) (fun q4 => ?_)
  refine r_putF (ws' := [(q0, .inr (5, [.ref (b1 0), .ref (b2 0), .ref (b3 0), .int 0, .int 0, .ref q4, .null, .int 0]))] ++ W_Qu (z_g x) b1 0 (fun _ => 0) (fun _ => 0) (fun _ => 0) ++ W_Pl (z_g x) b2 0 (fun _ => 0) (fun _ => 0) (fun _ => 0) (fun _ => 0) ++ W_Ti (z_g x) b3 0 (fun _ => 0) (fun _ => 0) ++ [(q4, .inl ((z_g x).2.1.1, 11, .inl (fun _ => 0)))]) C hme eX5_init_42 PFX5_32 0 rfl rfl rfl (Nat.le_of_ble_eq_true rfl) rfl ?_
  refine r_aload_n C eX5_init_45 0 rfl rfl ?_
  refine r_iconst C (v := 3) eX5_init_46 (by decide) ?_
  refine r_newaI C (N := 3) eX5_init_47 q42 (by decide) 11 144 (by decide) (fun q5 => ?_)
  refine r_putF (ws' := [(q0, .inr (5, [.ref (b1 0), .ref (b2 0), .ref (b3 0), .int 0, .int 0, .ref q4, .ref q5, .int 0]))] ++ W_Qu (z_g x) b1 0 (fun _ => 0) (fun _ => 0) (fun _ => 0) ++ W_Pl (z_g x) b2 0 (fun _ => 0) (fun _ => 0) (fun _ => 0) (fun _ => 0) ++ W_Ti (z_g x) b3 0 (fun _ => 0) (fun _ => 0) ++ [(q4, .inl ((z_g x).2.1.1, 11, .inl (fun _ => 0)))] ++ [(q5, .inl ((z_g x).2.1.1, 3, .inl (fun _ => 0)))]) C hme eX5_init_49 PFX5_36 0 rfl rfl rfl (Nat.le_of_ble_eq_true rfl) rfl ?_
  refine r_perm (ws' := W_Re (z_g x) (zfn [q0, q4, q5, (b1 0), (b1 (0 + 1)), (b1 (0 + 2)), (b2 0), (b2 (0 + 1)), (b2 (0 + 2)), (b2 (0 + 3)), (b3 0), (b3 (0 + 1))]) 0 (fun _ => 0) (fun _ => 0) (fun _ => 0) (fun _ => 0) (fun _ => 0) (fun _ => 0) (fun _ => 0) (fun _ => 0) (fun _ => 0) (fun _ => 0) (fun _ => 0) (fun _ => 0)) [0, 10, 11, 1, 2, 3, 4, 5, 6, 7, 8, 9] rfl rfl ?_
  exact hret (zfn [q0, q4, q5, (b1 0), (b1 (0 + 1)), (b1 (0 + 2)), (b2 0), (b2 (0 + 1)), (b2 (0 + 2)), (b2 (0 + 3)), (b3 0), (b3 (0 + 1))]) _ _ _ rfl eX5_init_52
theorem eX6_init_0 : zd 1 cX6_init 0 1 (.aload_n 0) := ⟨by decide +kernel, rfl⟩
theorem eX6_init_1 : zd 3 cX6_init 1 4 (.invokespecial 3) := ⟨by decide +kernel, rfl⟩
theorem eX6_init_4 : zd 1 cX6_init 4 5 (.aload_n 0) := ⟨by decide +kernel, rfl⟩
theorem eX6_init_5 : zd 3 cX6_init 5 8 (.new 9) := ⟨by decide +kernel, rfl⟩
theorem eX6_init_8 : zd 1 cX6_init 8 9 (.dup) := ⟨by decide +kernel, rfl⟩
theorem eX6_init_9 : zd 3 cX6_init 9 12 (.invokespecial 11) := ⟨by decide +kernel, rfl⟩
theorem eX6_init_12 : zd 3 cX6_init 12 15 (.putfield 12) := ⟨by decide +kernel, rfl⟩
theorem eX6_init_15 : zd 1 cX6_init 15 16 (.aload_n 0) := ⟨by decide +kernel, rfl⟩
theorem eX6_init_16 : zd 3 cX6_init 16 19 (.new 9) := ⟨by decide +kernel, rfl⟩
theorem eX6_init_19 : zd 1 cX6_init 19 20 (.dup) := ⟨by decide +kernel, rfl⟩
theorem eX6_init_20 : zd 3 cX6_init 20 23 (.invokespecial 11) := ⟨by decide +kernel, rfl⟩
theorem eX6_init_23 : zd 3 cX6_init 23 26 (.putfield 18) := ⟨by decide +kernel, rfl⟩
theorem eX6_init_26 : zd 1 cX6_init 26 27 (.aload_n 0) := ⟨by decide +kernel, rfl⟩
theorem eX6_init_27 : zd 3 cX6_init 27 30 (.new 21) := ⟨by decide +kernel, rfl⟩
theorem eX6_init_30 : zd 1 cX6_init 30 31 (.dup) := ⟨by decide +kernel, rfl⟩
theorem eX6_init_31 : zd 3 cX6_init 31 34 (.invokespecial 23) := ⟨by decide +kernel, rfl⟩
theorem eX6_init_34 : zd 3 cX6_init 34 37 (.putfield 24) := ⟨by decide +kernel, rfl⟩
theorem eX6_init_37 : zd 1 cX6_init 37 38 (.return_) := ⟨by decide +kernel, rfl⟩
theorem NX6_9 : zlW RX6 9 7 18 tyX7 := ⟨(RX7, TX7, 18), rfl, rfl, q305, q196, q7, zin7, tyX7_ok⟩
theorem IX6_11 : zlI RX6 11 yX7_init cX7_init 1 := ⟨Or.inr ⟨_, qn306⟩, q198, q7, q199, rfl, by decide, by decide, by decide +kernel⟩
theorem PFX6_12 : zlPF RX6 12 6 0 (.object "AlongsideLines$Ship") := ⟨(RX6, TX6, 3), tyX6, rfl, by decide, q309, zin6, tyX6_ok, nmX6, rfl, rfl, by decide +kernel⟩
theorem PFX6_18 : zlPF RX6 18 6 1 (.object "AlongsideLines$Ship") := ⟨(RX6, TX6, 3), tyX6, rfl, by decide, q310, zin6, tyX6_ok, nmX6, rfl, rfl, by decide +kernel⟩
theorem NX6_21 : zlW RX6 21 4 16 tyX4 := ⟨(RX4, TX4, 16), rfl, rfl, q307, q50, q4, zin4, tyX4_ok⟩
theorem IX6_23 : zlI RX6 23 yX4_init cX4_init 1 := ⟨Or.inr ⟨_, qn308⟩, q52, q4, q53, rfl, by decide, by decide, by decide +kernel⟩
theorem PFX6_24 : zlPF RX6 24 6 2 (.object "AlongsideLines$Quay") := ⟨(RX6, TX6, 3), tyX6, rfl, by decide, q311, zin6, tyX6_ok, nmX6, rfl, rfl, by decide +kernel⟩
abbrev rm_Se_init : Room := { frames := 3, cells := 15, slots := 132, locals := 60 }
abbrev d_Se : tSe := (((fun _ => 0), 0, ((fun _ => 0), (fun _ => 0), (fun _ => 0), (fun _ => 0))), ((fun _ => 0), 0, ((fun _ => 0), (fun _ => 0), (fun _ => 0), (fun _ => 0))), ((fun _ => 0), (fun _ => 0), (fun _ => 0)))
set_option maxHeartbeats 4000000 in
set_option maxRecDepth 100000 in
theorem c_Se_init (l : Launch) (g : zGl) (q0 : Nat) : zMc l yX6_init cX6_init 1 rm_Se_init 15 132 g q0 [(q0, .inr (6, df6))] (fun a => W_Se g a 0 (fun _ => 0) 0 (fun _ => 0) (fun _ => 0) (fun _ => 0) (fun _ => 0) (fun _ => 0) 0 (fun _ => 0) (fun _ => 0) (fun _ => 0) (fun _ => 0) (fun _ => 0) (fun _ => 0) (fun _ => 0)) := by
  refine zMc_of (by decide) rfl (Nat.le_of_ble_eq_true rfl) (fun x hl hg C hme hret => ?_)
  subst hl; subst hg
  refine r_aload_n C eX6_init_0 0 rfl rfl ?_
  refine r_obj C eX6_init_1 q304 q25 q26 ⟨by decide, by decide⟩ rfl ?_
  refine r_aload_n C eX6_init_4 0 rfl rfl ?_
  refine r_new C (fs := df7) eX6_init_5 NX6_9 dfl7 1 18 (by decide) (fun q1 => ?_)
  refine r_dup C eX6_init_8 rfl ?_
  refine r_ctor C (c_Sh_init (z_l x) (z_g x) q1) eX6_init_9 IX6_11 rfl rfl 6 46 (by decide) (fun b1 hb1 => ?_)
  subst hb1
  refine r_putF (ws' := [(q0, .inr (6, [.ref (b1 0), .null, .null]))] ++ W_Sh (z_g x) b1 0 (fun _ => 0) 0 (fun _ => 0) (fun _ => 0) (fun _ => 0) (fun _ => 0)) C hme eX6_init_12 PFX6_12 0 rfl rfl rfl (Nat.le_of_ble_eq_true rfl) rfl ?_
  refine r_aload_n C eX6_init_15 0 rfl rfl ?_
  refine r_new C (fs := df7) eX6_init_16 NX6_9 dfl7 7 64 (by decide) (fun q2 => ?_)
  refine r_dup C eX6_init_19 rfl ?_
  refine r_ctor C (c_Sh_init (z_l x) (z_g x) q2) eX6_init_20 IX6_11 rfl rfl 12 92 (by decide) (fun b2 hb2 => ?_)
  subst hb2
  refine r_putF (ws' := [(q0, .inr (6, [.ref (b1 0), .ref (b2 0), .null]))] ++ W_Sh (z_g x) b1 0 (fun _ => 0) 0 (fun _ => 0) (fun _ => 0) (fun _ => 0) (fun _ => 0) ++ W_Sh (z_g x) b2 0 (fun _ => 0) 0 (fun _ => 0) (fun _ => 0) (fun _ => 0) (fun _ => 0)) C hme eX6_init_23 PFX6_18 0 rfl rfl rfl (Nat.le_of_ble_eq_true rfl) rfl ?_
  refine r_aload_n C eX6_init_26 0 rfl rfl ?_
  refine r_new C (fs := df4) eX6_init_27 NX6_21 dfl4 13 108 (by decide) (fun q3 => ?_)
  refine r_dup C eX6_init_30 rfl ?_
  refine r_ctor C (c_Qu_init (z_l x) (z_g x) q3) eX6_init_31 IX6_23 rfl rfl 15 132 (by decide) (fun b3 hb3 => ?_)
  subst hb3
  refine r_putF (ws' := [(q0, .inr (6, [.ref (b1 0), .ref (b2 0), .ref (b3 0)]))] ++ W_Sh (z_g x) b1 0 (fun _ => 0) 0 (fun _ => 0) (fun _ => 0) (fun _ => 0) (fun _ => 0) ++ W_Sh (z_g x) b2 0 (fun _ => 0) 0 (fun _ => 0) (fun _ => 0) (fun _ => 0) (fun _ => 0) ++ W_Qu (z_g x) b3 0 (fun _ => 0) (fun _ => 0) (fun _ => 0)) C hme eX6_init_34 PFX6_24 0 rfl rfl rfl (Nat.le_of_ble_eq_true rfl) rfl ?_
  refine r_perm (ws' := W_Se (z_g x) (zfn [q0, (b1 0), (b1 (0 + 1)), (b1 ((0 + 1) + 1)), (b1 ((0 + 1) + 2)), (b1 ((0 + 1) + 3)), (b1 ((0 + 1) + 4)), (b2 0), (b2 (0 + 1)), (b2 ((0 + 1) + 1)), (b2 ((0 + 1) + 2)), (b2 ((0 + 1) + 3)), (b2 ((0 + 1) + 4)), (b3 0), (b3 (0 + 1)), (b3 (0 + 2))]) 0 (fun _ => 0) 0 (fun _ => 0) (fun _ => 0) (fun _ => 0) (fun _ => 0) (fun _ => 0) 0 (fun _ => 0) (fun _ => 0) (fun _ => 0) (fun _ => 0) (fun _ => 0) (fun _ => 0) (fun _ => 0)) [0, 1, 2, 3, 4, 5, 6, 7, 8, 9, 10, 11, 12, 13, 14, 15] rfl rfl ?_
  exact hret (zfn [q0, (b1 0), (b1 (0 + 1)), (b1 ((0 + 1) + 1)), (b1 ((0 + 1) + 2)), (b1 ((0 + 1) + 3)), (b1 ((0 + 1) + 4)), (b2 0), (b2 (0 + 1)), (b2 ((0 + 1) + 1)), (b2 ((0 + 1) + 2)), (b2 ((0 + 1) + 3)), (b2 ((0 + 1) + 4)), (b3 0), (b3 (0 + 1)), (b3 (0 + 2))]) _ _ _ rfl eX6_init_37
