theorem eJ0_coder_7d493_0 : zd 3 cJ0_coder_7d493 0 3 (.getstatic 38) := ⟨by decide +kernel, rfl⟩
theorem eJ0_coder_7d493_3 : zdi cJ0_coder_7d493 3 6 13 (.ifCond .eq) := ⟨10, by decide +kernel, rfl, by decide⟩
theorem eJ0_coder_7d493_6 : zd 1 cJ0_coder_7d493 6 7 (.aload_n 0) := ⟨by decide +kernel, rfl⟩
theorem eJ0_coder_7d493_7 : zd 3 cJ0_coder_7d493 7 10 (.getfield 15) := ⟨by decide +kernel, rfl⟩
theorem eJ0_coder_7d493_10 : zdi cJ0_coder_7d493 10 13 14 (.goto) := ⟨4, by decide +kernel, rfl, by decide⟩
theorem eJ0_coder_7d493_13 : zd 1 cJ0_coder_7d493 13 14 (.iconst 1) := ⟨by decide +kernel, rfl⟩
theorem eJ0_coder_7d493_14 : zd 1 cJ0_coder_7d493 14 15 (.ireturn) := ⟨by decide +kernel, rfl⟩
theorem eJ0_isLatin1_aae02_0 : zd 3 cJ0_isLatin1_aae02 0 3 (.getstatic 38) := ⟨by decide +kernel, rfl⟩
theorem eJ0_isLatin1_aae02_3 : zdi cJ0_isLatin1_aae02 3 6 17 (.ifCond .eq) := ⟨14, by decide +kernel, rfl, by decide⟩
theorem eJ0_isLatin1_aae02_6 : zd 1 cJ0_isLatin1_aae02 6 7 (.aload_n 0) := ⟨by decide +kernel, rfl⟩
theorem eJ0_isLatin1_aae02_7 : zd 3 cJ0_isLatin1_aae02 7 10 (.getfield 15) := ⟨by decide +kernel, rfl⟩
theorem eJ0_isLatin1_aae02_10 : zdi cJ0_isLatin1_aae02 10 13 17 (.ifCond .ne) := ⟨7, by decide +kernel, rfl, by decide⟩
theorem eJ0_isLatin1_aae02_13 : zd 1 cJ0_isLatin1_aae02 13 14 (.iconst 1) := ⟨by decide +kernel, rfl⟩
theorem eJ0_isLatin1_aae02_14 : zdi cJ0_isLatin1_aae02 14 17 18 (.goto) := ⟨4, by decide +kernel, rfl, by decide⟩
theorem eJ0_isLatin1_aae02_17 : zd 1 cJ0_isLatin1_aae02 17 18 (.iconst 0) := ⟨by decide +kernel, rfl⟩
theorem eJ0_isLatin1_aae02_18 : zd 1 cJ0_isLatin1_aae02 18 19 (.ireturn) := ⟨by decide +kernel, rfl⟩
theorem eJ0_length_8abf5_0 : zd 1 cJ0_length_8abf5 0 1 (.aload_n 0) := ⟨by decide +kernel, rfl⟩
theorem eJ0_length_8abf5_1 : zd 3 cJ0_length_8abf5 1 4 (.getfield 9) := ⟨by decide +kernel, rfl⟩
theorem eJ0_length_8abf5_4 : zd 1 cJ0_length_8abf5 4 5 (.arraylength) := ⟨by decide +kernel, rfl⟩
theorem eJ0_length_8abf5_5 : zd 1 cJ0_length_8abf5 5 6 (.aload_n 0) := ⟨by decide +kernel, rfl⟩
theorem eJ0_length_8abf5_6 : zd 3 cJ0_length_8abf5 6 9 (.invokevirtual 335) := ⟨by decide +kernel, rfl⟩
theorem eJ0_length_8abf5_9 : zd 1 cJ0_length_8abf5 9 10 (.ishr) := ⟨by decide +kernel, rfl⟩
theorem eJ0_length_8abf5_10 : zd 1 cJ0_length_8abf5 10 11 (.ireturn) := ⟨by decide +kernel, rfl⟩
theorem eJ0_charAt_5068e_0 : zd 1 cJ0_charAt_5068e 0 1 (.aload_n 0) := ⟨by decide +kernel, rfl⟩
theorem eJ0_charAt_5068e_1 : zd 3 cJ0_charAt_5068e 1 4 (.invokevirtual 492) := ⟨by decide +kernel, rfl⟩
theorem eJ0_charAt_5068e_4 : zdi cJ0_charAt_5068e 4 7 16 (.ifCond .eq) := ⟨12, by decide +kernel, rfl, by decide⟩
theorem eJ0_charAt_5068e_7 : zd 1 cJ0_charAt_5068e 7 8 (.aload_n 0) := ⟨by decide +kernel, rfl⟩
theorem eJ0_charAt_5068e_8 : zd 3 cJ0_charAt_5068e 8 11 (.getfield 9) := ⟨by decide +kernel, rfl⟩
theorem eJ0_charAt_5068e_11 : zd 1 cJ0_charAt_5068e 11 12 (.iload_n 1) := ⟨by decide +kernel, rfl⟩
theorem eJ0_charAt_5068e_12 : zd 3 cJ0_charAt_5068e 12 15 (.invokestatic 495) := ⟨by decide +kernel, rfl⟩
theorem eJ0_charAt_5068e_15 : zd 1 cJ0_charAt_5068e 15 16 (.ireturn) := ⟨by decide +kernel, rfl⟩
theorem eJ0_charAt_5068e_16 : zd 1 cJ0_charAt_5068e 16 17 (.aload_n 0) := ⟨by decide +kernel, rfl⟩
theorem eJ0_charAt_5068e_17 : zd 3 cJ0_charAt_5068e 17 20 (.getfield 9) := ⟨by decide +kernel, rfl⟩
theorem eJ0_charAt_5068e_20 : zd 1 cJ0_charAt_5068e 20 21 (.iload_n 1) := ⟨by decide +kernel, rfl⟩
theorem eJ0_charAt_5068e_21 : zd 3 cJ0_charAt_5068e 21 24 (.invokestatic 498) := ⟨by decide +kernel, rfl⟩
theorem eJ0_charAt_5068e_24 : zd 1 cJ0_charAt_5068e 24 25 (.ireturn) := ⟨by decide +kernel, rfl⟩
theorem eJ0_checkIndex_df160_0 : zd 1 cJ0_checkIndex_df160 0 1 (.iload_n 0) := ⟨by decide +kernel, rfl⟩
theorem eJ0_checkIndex_df160_1 : zd 1 cJ0_checkIndex_df160 1 2 (.iload_n 1) := ⟨by decide +kernel, rfl⟩
theorem eJ0_checkIndex_df160_2 : zd 3 cJ0_checkIndex_df160 2 5 (.getstatic 1053) := ⟨by decide +kernel, rfl⟩
theorem eJ0_checkIndex_df160_5 : zd 3 cJ0_checkIndex_df160 5 8 (.invokestatic 1059) := ⟨by decide +kernel, rfl⟩
theorem eJ0_checkIndex_df160_8 : zd 1 cJ0_checkIndex_df160 8 9 (.pop) := ⟨by decide +kernel, rfl⟩
theorem eJ0_checkIndex_df160_9 : zd 1 cJ0_checkIndex_df160 9 10 (.return_) := ⟨by decide +kernel, rfl⟩
theorem eJ1_charAt_3b067_0 : zd 1 cJ1_charAt_3b067 0 1 (.iload_n 1) := ⟨by decide +kernel, rfl⟩
theorem eJ1_charAt_3b067_1 : zd 1 cJ1_charAt_3b067 1 2 (.aload_n 0) := ⟨by decide +kernel, rfl⟩
theorem eJ1_charAt_3b067_2 : zd 1 cJ1_charAt_3b067 2 3 (.arraylength) := ⟨by decide +kernel, rfl⟩
theorem eJ1_charAt_3b067_3 : zd 3 cJ1_charAt_3b067 3 6 (.invokestatic 9) := ⟨by decide +kernel, rfl⟩
theorem eJ1_charAt_3b067_6 : zd 1 cJ1_charAt_3b067 6 7 (.aload_n 0) := ⟨by decide +kernel, rfl⟩
theorem eJ1_charAt_3b067_7 : zd 1 cJ1_charAt_3b067 7 8 (.iload_n 1) := ⟨by decide +kernel, rfl⟩
theorem eJ1_charAt_3b067_8 : zd 1 cJ1_charAt_3b067 8 9 (.baload) := ⟨by decide +kernel, rfl⟩
theorem eJ1_charAt_3b067_9 : zd 3 cJ1_charAt_3b067 9 12 (.sipush 255) := ⟨by decide +kernel, rfl⟩
theorem eJ1_charAt_3b067_12 : zd 1 cJ1_charAt_3b067 12 13 (.iand) := ⟨by decide +kernel, rfl⟩
theorem eJ1_charAt_3b067_13 : zd 1 cJ1_charAt_3b067 13 14 (.i2c) := ⟨by decide +kernel, rfl⟩
theorem eJ1_charAt_3b067_14 : zd 1 cJ1_charAt_3b067 14 15 (.ireturn) := ⟨by decide +kernel, rfl⟩
theorem eJ3_checkIndex_8e157_0 : zd 1 cJ3_checkIndex_8e157 0 1 (.iload_n 0) := ⟨by decide +kernel, rfl⟩
theorem eJ3_checkIndex_8e157_1 : zdi cJ3_checkIndex_8e157 1 4 9 (.ifCond .lt) := ⟨8, by decide +kernel, rfl, by decide⟩
theorem eJ3_checkIndex_8e157_4 : zd 1 cJ3_checkIndex_8e157 4 5 (.iload_n 0) := ⟨by decide +kernel, rfl⟩
theorem eJ3_checkIndex_8e157_5 : zd 1 cJ3_checkIndex_8e157 5 6 (.iload_n 1) := ⟨by decide +kernel, rfl⟩
theorem eJ3_checkIndex_8e157_6 : zdi cJ3_checkIndex_8e157 6 9 16 (.if_icmp .lt) := ⟨10, by decide +kernel, rfl, by decide⟩
theorem eJ3_checkIndex_8e157_9 : zd 1 cJ3_checkIndex_8e157 9 10 (.aload_n 2) := ⟨by decide +kernel, rfl⟩
theorem eJ3_checkIndex_8e157_10 : zd 1 cJ3_checkIndex_8e157 10 11 (.iload_n 0) := ⟨by decide +kernel, rfl⟩
theorem eJ3_checkIndex_8e157_11 : zd 1 cJ3_checkIndex_8e157 11 12 (.iload_n 1) := ⟨by decide +kernel, rfl⟩
theorem eJ3_checkIndex_8e157_12 : zd 3 cJ3_checkIndex_8e157 12 15 (.invokestatic 95) := ⟨by decide +kernel, rfl⟩
theorem eJ3_checkIndex_8e157_16 : zd 1 cJ3_checkIndex_8e157 16 17 (.iload_n 0) := ⟨by decide +kernel, rfl⟩
theorem eJ3_checkIndex_8e157_17 : zd 1 cJ3_checkIndex_8e157 17 18 (.ireturn) := ⟨by decide +kernel, rfl⟩
theorem MX8_28 : zlV RX8 28 yJ0_length_8abf5 cJ0_length_8abf5 1 (some .int) 0 := ⟨q487, q488, q489, q13, q490, by decide, by decide, by decide +kernel⟩
theorem MJ0_335 : zlV RJ0 335 yJ0_coder_7d493 cJ0_coder_7d493 1 (some .byte) 0 := ⟨q491, q492, q493, q13, q494, by decide, by decide, by decide +kernel⟩
theorem MX8_34 : zlV RX8 34 yJ0_charAt_5068e cJ0_charAt_5068e 2 (some .char) 1 := ⟨q497, q498, q499, q13, q500, by decide, by decide, by decide +kernel⟩
theorem MJ0_492 : zlV RJ0 492 yJ0_isLatin1_aae02 cJ0_isLatin1_aae02 1 (some .boolean) 0 := ⟨q501, q502, q503, q13, q504, by decide, by decide, by decide +kernel⟩
theorem MJ0_495 : zlS RJ0 495 yJ1_charAt_3b067 cJ1_charAt_3b067 2 (some .char) 2 := ⟨q505, q506, q14, q507, by decide, by decide, by decide +kernel⟩
theorem MJ1_9 : zlS RJ1 9 yJ0_checkIndex_df160 cJ0_checkIndex_df160 2 (none) 2 := ⟨q508, q509, q13, q510, by decide, by decide, by decide +kernel⟩
theorem MJ0_1059 : zlS RJ0 1059 yJ3_checkIndex_8e157 cJ3_checkIndex_8e157 3 (some .int) 3 := ⟨q513, q514, q15, q515, by decide, by decide, by decide +kernel⟩
abbrev zR (f n : Nat) : Room := { frames := f, cells := 0, slots := 0, locals := n }
set_option maxHeartbeats 4000000 in
set_option maxRecDepth 100000 in
theorem c_St_coder (l : Launch) (g : zGl) (k : Nat) (hk : k < 11) : zMt .byte l yJ0_coder_7d493 cJ0_coder_7d493 1 (zR 0 0) g [.ref (g.2.2.1 k)] [] 0 [] := by
  refine zMt_of (lv := [(0, .ref (g.2.2.1 k))]) (by decide) (Nat.le_of_ble_eq_true rfl) rfl (fun x hl hg C hret => ?_)
  subst hl; subst hg
  refine r_cmp C eJ0_coder_7d493_0 q495 ?_
  refine r_if_eq C eJ0_coder_7d493_3 (fun h => absurd h (by decide)) (fun _ => ?_)
  refine r_aload_n C eJ0_coder_7d493_6 0 rfl rfl ?_
  refine r_scod C hk eJ0_coder_7d493_7 q1577 ?_
  refine r_goto C eJ0_coder_7d493_10 ?_
  exact hret _ _ _ eJ0_coder_7d493_14 rfl
set_option maxHeartbeats 4000000 in
set_option maxRecDepth 100000 in
theorem c_St_isLatin1 (l : Launch) (g : zGl) (k : Nat) (hk : k < 11) : zMt .boolean l yJ0_isLatin1_aae02 cJ0_isLatin1_aae02 1 (zR 0 0) g [.ref (g.2.2.1 k)] [] 1 [] := by
  refine zMt_of (lv := [(0, .ref (g.2.2.1 k))]) (by decide) (Nat.le_of_ble_eq_true rfl) rfl (fun x hl hg C hret => ?_)
  subst hl; subst hg
  refine r_cmp C eJ0_isLatin1_aae02_0 q495 ?_
  refine r_if_eq C eJ0_isLatin1_aae02_3 (fun h => absurd h (by decide)) (fun _ => ?_)
  refine r_aload_n C eJ0_isLatin1_aae02_6 0 rfl rfl ?_
  refine r_scod C hk eJ0_isLatin1_aae02_7 q1577 ?_
  refine r_if_ne C eJ0_isLatin1_aae02_10 (fun h => absurd rfl h) (fun _ => ?_)
  refine r_iconst C (v := 1) eJ0_isLatin1_aae02_13 (by decide) ?_
  refine r_goto C eJ0_isLatin1_aae02_14 ?_
  exact hret _ _ _ eJ0_isLatin1_aae02_18 rfl
/-- a word's length, a word's sign -/
def zsl (k : Nat) : Int32 := Int32.ofNat (zLen.getD k 0) >>> ((0 : Int32) &&& 31)
def zsc (k : Nat) (i : Int32) : Int32 := (((zByt.getD k []).getD (ix i) 0 &&& 255).toUInt32 % 65536).toInt32
set_option maxHeartbeats 4000000 in
set_option maxRecDepth 100000 in
theorem c_St_length (l : Launch) (g : zGl) (k : Nat) (hk : k < 11) : zMi l yJ0_length_8abf5 cJ0_length_8abf5 1 (zR 1 20) g [.ref (g.2.2.1 k)] [] (zsl k) [] := by
  refine zMi_of (lv := [(0, .ref (g.2.2.1 k))]) (by decide) (Nat.le_of_ble_eq_true rfl) rfl (fun x hl hg C hret => ?_)
  subst hl; subst hg
  refine r_aload_n C eJ0_length_8abf5_0 0 rfl rfl ?_
  refine r_sval C hk eJ0_length_8abf5_1 q1576 ?_
  refine r_slen C hk eJ0_length_8abf5_4 ?_
  refine r_aload_n C eJ0_length_8abf5_5 0 rfl rfl ?_
  refine r_VS_t C (c_St_coder (z_l x) (z_g x) k hk) eJ0_length_8abf5_6 MJ0_335 hk rfl rfl rfl rfl rfl rfl (fun _ => ?_)
  refine r_ishr C eJ0_length_8abf5_9 ?_
  exact hret _ _ _ eJ0_length_8abf5_10
set_option maxHeartbeats 4000000 in
set_option maxRecDepth 100000 in
theorem c_St_check3 (l : Launch) (g : zGl) (i n : Int32) (v : Value) (hv : v.category = 1) (hsl : lg_sl [v] = [.val v]) (h1 : ¬ i < 0) (h2 : i < n) : zMi l yJ3_checkIndex_8e157 cJ3_checkIndex_8e157 3 (zR 0 0) g [.int i, .int n, v] [] i [] := by
  have hsl3 : lg_sl [.int i, .int n, v] = [.val (.int i), .val (.int n), .val v] := by
    cases v <;> first | rfl | (simp [Value.category] at hv)
  refine zMi_of (lv := lv_args 0 [.int i, .int n, v]) (by decide) (by rw [hsl3]; exact Nat.le_of_ble_eq_true rfl) rfl (fun x hl hg C hret => ?_)
  subst hl; subst hg
  have e : lv_args 0 [.int i, .int n, v] = [(0, .int i), (1, .int n), (2, v)] := by
    cases v <;> first | rfl | (simp [Value.category] at hv)
  rw [e]
  refine r_iload_n C eJ3_checkIndex_8e157_0 0 rfl rfl ?_
  refine r_if_lt C eJ3_checkIndex_8e157_1 (fun h => absurd h h1) (fun _ => ?_)
  refine r_iload_n C eJ3_checkIndex_8e157_4 0 rfl rfl ?_
  refine r_iload_n C eJ3_checkIndex_8e157_5 1 rfl rfl ?_
  refine r_icmp_lt C eJ3_checkIndex_8e157_6 (fun _ => ?_) (fun h => absurd h2 h)
  refine r_iload_n C eJ3_checkIndex_8e157_16 0 rfl rfl ?_
  exact hret _ _ _ eJ3_checkIndex_8e157_17
set_option maxHeartbeats 4000000 in
set_option maxRecDepth 100000 in
theorem c_St_check (l : Launch) (g : zGl) (i n : Int32) (h1 : ¬ i < 0) (h2 : i < n) : zMv l yJ0_checkIndex_df160 cJ0_checkIndex_df160 2 (zR 1 22) g [.int i, .int n] [] [] := by
  refine zMv_of (lv := [(0, .int i), (1, .int n)]) (by decide) (Nat.le_of_ble_eq_true rfl) rfl (fun x hl hg C hret => ?_)
  subst hl; subst hg
  refine r_iload_n C eJ0_checkIndex_df160_0 0 rfl rfl ?_
  refine r_iload_n C eJ0_checkIndex_df160_1 1 rfl rfl ?_
  refine r_fmt C eJ0_checkIndex_df160_2 q511 (fun v hv hsl => ?_)
  refine r_SS_i C (c_St_check3 (z_l x) (z_g x) i n v hv hsl h1 h2) eJ0_checkIndex_df160_5 MJ0_1059 rfl rfl rfl rfl rfl ?_
  refine r_pop C eJ0_checkIndex_df160_8 rfl ?_
  exact hret _ _ _ eJ0_checkIndex_df160_9
theorem zsc_all : ∀ k : Fin 11, ∀ j : Fin 6, narrow .char (.int (((((zByt.getD k.1 []).getD j.1 0) &&& 255).toUInt32 % 65536).toInt32)) = .int (((((zByt.getD k.1 []).getD j.1 0) &&& 255).toUInt32 % 65536).toInt32) := by decide +kernel
theorem zLen_le : ∀ k : Fin 11, zLen.getD k.1 0 ≤ 6 := by decide +kernel
theorem zsc_char {k : Nat} {i : Int32} (hk : k < 11) (hin : inb i (zLen.getD k 0) = true) : narrow .char (.int (zsc k i)) = .int (zsc k i) := by
  have h := inb_in hin
  have h3 : ix i < zLen.getD k 0 := Nat.not_le.mp (fun q => h (Or.inr q))
  have h2 := zLen_le ⟨k, hk⟩
  exact zsc_all ⟨k, hk⟩ ⟨ix i, Nat.lt_of_lt_of_le h3 h2⟩
theorem zlen_cmp {k : Nat} {i : Int32} (hk : k < 11) (hin : inb i (zLen.getD k 0) = true) : ¬ i < 0 ∧ i < Int32.ofNat (zLen.getD k 0) := by
  have h := inb_in hin
  have h2 : zLen.getD k 0 ≤ 6 := zLen_le ⟨k, hk⟩
  obtain ⟨j, hj, rfl⟩ := vp_in_of h (by omega)
  exact ⟨nI_pos (by omega), nI_lt hj (by omega)⟩
set_option maxHeartbeats 4000000 in
set_option maxRecDepth 100000 in
theorem c_St_charAt1 (l : Launch) (g : zGl) (k : Nat) (hk : k < 11) (i : Int32) (hin : inb i (zLen.getD k 0) = true) : zMt .char l yJ1_charAt_3b067 cJ1_charAt_3b067 2 (zR 2 43) g [.ref (g.2.2.2 k), .int i] [] (zsc k i) [] := by
  refine zMt_of (lv := [(0, .ref (g.2.2.2 k)), (1, .int i)]) (by decide) (Nat.le_of_ble_eq_true rfl) rfl (fun x hl hg C hret => ?_)
  subst hl; subst hg
  obtain ⟨h1, h2⟩ := zlen_cmp hk hin
  refine r_iload_n C eJ1_charAt_3b067_0 1 rfl rfl ?_
  refine r_aload_n C eJ1_charAt_3b067_1 0 rfl rfl ?_
  refine r_slen C hk eJ1_charAt_3b067_2 ?_
  refine r_SS_v C (c_St_check (z_l x) (z_g x) i _ h1 h2) eJ1_charAt_3b067_3 MJ1_9 rfl rfl rfl rfl rfl ?_
  refine r_aload_n C eJ1_charAt_3b067_6 0 rfl rfl ?_
  refine r_iload_n C eJ1_charAt_3b067_7 1 rfl rfl ?_
  refine r_sbyt C hk eJ1_charAt_3b067_8 (inb_in hin) ?_
  refine r_sipush C (v := 255) eJ1_charAt_3b067_9 (by decide) ?_
  refine r_iand C eJ1_charAt_3b067_12 ?_
  refine r_i2c C eJ1_charAt_3b067_13 ?_
  exact hret _ _ _ eJ1_charAt_3b067_14 (zsc_char hk hin)
set_option maxHeartbeats 4000000 in
set_option maxRecDepth 100000 in
theorem c_St_charAt (l : Launch) (g : zGl) (k : Nat) (hk : k < 11) (i : Int32) (hin : inb i (zLen.getD k 0) = true) : zMt .char l yJ0_charAt_5068e cJ0_charAt_5068e 2 (zR 3 64) g [.ref (g.2.2.1 k), .int i] [] (zsc k i) [] := by
  refine zMt_of (lv := [(0, .ref (g.2.2.1 k)), (1, .int i)]) (by decide) (Nat.le_of_ble_eq_true rfl) rfl (fun x hl hg C hret => ?_)
  subst hl; subst hg
  refine r_aload_n C eJ0_charAt_5068e_0 0 rfl rfl ?_
  refine r_VS_t C (c_St_isLatin1 (z_l x) (z_g x) k hk) eJ0_charAt_5068e_1 MJ0_492 hk rfl rfl rfl rfl rfl rfl (fun _ => ?_)
  refine r_if_eq C eJ0_charAt_5068e_4 (fun h => absurd h (by decide)) (fun _ => ?_)
  refine r_aload_n C eJ0_charAt_5068e_7 0 rfl rfl ?_
  refine r_sval C hk eJ0_charAt_5068e_8 q1576 ?_
  refine r_iload_n C eJ0_charAt_5068e_11 1 rfl rfl ?_
  refine r_SS_t C (c_St_charAt1 (z_l x) (z_g x) k hk i hin) eJ0_charAt_5068e_12 MJ0_495 rfl rfl rfl rfl rfl (fun hz => ?_)
  exact hret _ _ _ eJ0_charAt_5068e_15 hz
