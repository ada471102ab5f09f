theorem eX9_add_0 : zd 1 cX9_add 0 1 (.aload_n 0) := ⟨by decide +kernel, rfl⟩
theorem eX9_add_1 : zd 3 cX9_add 1 4 (.getfield 19) := ⟨by decide +kernel, rfl⟩
theorem eX9_add_4 : zdi cX9_add 4 7 36 (.ifCond .lt) := ⟨32, by decide +kernel, rfl, by decide⟩
theorem eX9_add_7 : zd 1 cX9_add 7 8 (.aload_n 0) := ⟨by decide +kernel, rfl⟩
theorem eX9_add_8 : zd 3 cX9_add 8 11 (.getfield 19) := ⟨by decide +kernel, rfl⟩
theorem eX9_add_11 : zd 2 cX9_add 11 13 (.bipush 24) := ⟨by decide +kernel, rfl⟩
theorem eX9_add_13 : zdi cX9_add 13 16 36 (.if_icmp .ge) := ⟨23, by decide +kernel, rfl, by decide⟩
theorem eX9_add_16 : zd 1 cX9_add 16 17 (.aload_n 0) := ⟨by decide +kernel, rfl⟩
theorem eX9_add_17 : zd 3 cX9_add 17 20 (.getfield 9) := ⟨by decide +kernel, rfl⟩
theorem eX9_add_20 : zd 1 cX9_add 20 21 (.aload_n 0) := ⟨by decide +kernel, rfl⟩
theorem eX9_add_21 : zd 3 cX9_add 21 24 (.getfield 19) := ⟨by decide +kernel, rfl⟩
theorem eX9_add_24 : zd 1 cX9_add 24 25 (.iload_n 1) := ⟨by decide +kernel, rfl⟩
theorem eX9_add_25 : zd 1 cX9_add 25 26 (.iastore) := ⟨by decide +kernel, rfl⟩
theorem eX9_add_26 : zd 1 cX9_add 26 27 (.aload_n 0) := ⟨by decide +kernel, rfl⟩
theorem eX9_add_27 : zd 1 cX9_add 27 28 (.dup) := ⟨by decide +kernel, rfl⟩
theorem eX9_add_28 : zd 3 cX9_add 28 31 (.getfield 19) := ⟨by decide +kernel, rfl⟩
theorem eX9_add_31 : zd 1 cX9_add 31 32 (.iconst 1) := ⟨by decide +kernel, rfl⟩
theorem eX9_add_32 : zd 1 cX9_add 32 33 (.iadd) := ⟨by decide +kernel, rfl⟩
theorem eX9_add_33 : zd 3 cX9_add 33 36 (.putfield 19) := ⟨by decide +kernel, rfl⟩
theorem eX9_add_36 : zd 1 cX9_add 36 37 (.return_) := ⟨by decide +kernel, rfl⟩
theorem FX9_9 : zlF RX9 9 9 1 := ⟨(RX9, TX9, 2), rfl, by decide, q153, zin9⟩
theorem FX9_19 : zlF RX9 19 9 0 := ⟨(RX9, TX9, 2), rfl, by decide, q149, zin9⟩
theorem PX9_19 : zlP RX9 19 9 0 .int := ⟨(RX9, TX9, 2), tyX9, rfl, by decide, q149, zin9, tyX9_ok, nmX9, rfl, by decide +kernel⟩
noncomputable def f_Ti_add (v0 : tTi) (p1 : Int32) : Option ((Nat → Int32) × (Nat → Int32)) := (if ((gTi_ints v0) 0) < 0 then (some ((gTi_ints v0), (gTi_heights v0))) else (if 24 ≤ ((gTi_ints v0) 0) then (some ((gTi_ints v0), (gTi_heights v0))) else (if inb ((gTi_ints v0) 0) 24 = true then (zlet (((gTi_ints v0) 0) + 1) (fun (z4 : Int32) => (some ((upd (gTi_ints v0) 0 z4), (upd (gTi_heights v0) (ix ((gTi_ints v0) 0)) p1))))) else none)))
abbrev rm_Ti_add : Room := { frames := 0, cells := 0, slots := 0, locals := 0 }
set_option maxHeartbeats 4000000 in
set_option maxRecDepth 100000 in
theorem c_Ti_add (l : Launch) (g : zGl) (a0 : Nat → Nat) (o0 : Nat) (v0 : tTi) (p1 : Int32) (out : (Nat → Int32) × (Nat → Int32)) (hf : f_Ti_add v0 p1 = some out) : zMv l yX9_add cX9_add 2 rm_Ti_add g [.ref (a0 o0), .int p1] (W_Ti g a0 o0 (gTi_ints v0) (gTi_heights v0))  (W_Ti g a0 o0 (out.1) (out.2)) := by
  refine zMv_of (lv := [(0, .ref (a0 o0)), (1, .int p1)]) (by decide) (Nat.le_of_ble_eq_true rfl) rfl (fun x hl hg C hret => ?_)
  subst hl; subst hg
  rw [f_Ti_add] at hf
  refine r_aload_n C eX9_add_0 0 rfl rfl ?_
  refine r_get (v := .int ((gTi_ints v0) 0)) C eX9_add_1 FX9_19 0 rfl rfl ?_
  refine r_if_lt C eX9_add_4 (fun c1 => ?_) (fun c1 => ?_)
  · rw [if_pos c1] at hf
    obtain rfl := Option.some.inj (show some (((gTi_ints v0), (gTi_heights v0)) : (Nat → Int32) × (Nat → Int32)) = some _ from hf)
    exact hret _ _ _ eX9_add_36
  · rw [if_neg c1] at hf
    refine r_aload_n C eX9_add_7 0 rfl rfl ?_
    refine r_get (v := .int ((gTi_ints v0) 0)) C eX9_add_8 FX9_19 0 rfl rfl ?_
    refine r_bipush C (v := 24) eX9_add_11 (by decide) ?_
    refine r_icmp_ge C eX9_add_13 (fun c2 => ?_) (fun c2 => ?_)
    · rw [if_pos c2] at hf
      obtain rfl := Option.some.inj (show some (((gTi_ints v0), (gTi_heights v0)) : (Nat → Int32) × (Nat → Int32)) = some _ from hf)
      exact hret _ _ _ eX9_add_36
    · rw [if_neg c2] at hf
      refine r_aload_n C eX9_add_16 0 rfl rfl ?_
      refine r_get (v := .ref (a0 (o0 + 1))) C eX9_add_17 FX9_9 0 rfl rfl ?_
      refine r_aload_n C eX9_add_20 0 rfl rfl ?_
      refine r_get (v := .int ((gTi_ints v0) 0)) C eX9_add_21 FX9_19 0 rfl rfl ?_
      refine r_iload_n C eX9_add_24 1 rfl rfl ?_
      obtain ⟨hb3, hf⟩ := zchk hf
      refine r_iast (ws' := W_Ti (z_g x) a0 o0 (gTi_ints v0) (upd (gTi_heights v0) (ix ((gTi_ints v0) 0)) p1)) C eX9_add_25 1 rfl (inb_in hb3) rfl ?_
      refine r_aload_n C eX9_add_26 0 rfl rfl ?_
      refine r_dup C eX9_add_27 rfl ?_
      refine r_get (v := .int ((gTi_ints v0) 0)) C eX9_add_28 FX9_19 0 rfl rfl ?_
      refine r_iconst C (v := 1) eX9_add_31 (by decide) ?_
      refine r_iadd C eX9_add_32 ?_
      obtain ⟨z4, hz4, hf⟩ := zlet_of hf
      refine r_nami hz4 ?_
      refine r_put (ws' := W_Ti (z_g x) a0 o0 (upd (gTi_ints v0) 0 z4) (upd (gTi_heights v0) (ix ((gTi_ints v0) 0)) p1)) C eX9_add_33 PX9_19 0 rfl rfl rfl (Nat.le_of_ble_eq_true rfl) rfl ?_
      obtain rfl := Option.some.inj (show some (((upd (gTi_ints v0) 0 z4), (upd (gTi_heights v0) (ix ((gTi_ints v0) 0)) p1)) : (Nat → Int32) × (Nat → Int32)) = some _ from hf)
      exact hret _ _ _ eX9_add_36
theorem eX9_copyFrom_0 : zd 1 cX9_copyFrom 0 1 (.aload_n 1) := ⟨by decide +kernel, rfl⟩
theorem eX9_copyFrom_1 : zd 3 cX9_copyFrom 1 4 (.getfield 9) := ⟨by decide +kernel, rfl⟩
theorem eX9_copyFrom_4 : zd 1 cX9_copyFrom 4 5 (.iconst 0) := ⟨by decide +kernel, rfl⟩
theorem eX9_copyFrom_5 : zd 1 cX9_copyFrom 5 6 (.aload_n 0) := ⟨by decide +kernel, rfl⟩
theorem eX9_copyFrom_6 : zd 3 cX9_copyFrom 6 9 (.getfield 9) := ⟨by decide +kernel, rfl⟩
theorem eX9_copyFrom_9 : zd 1 cX9_copyFrom 9 10 (.iconst 0) := ⟨by decide +kernel, rfl⟩
theorem eX9_copyFrom_10 : zd 2 cX9_copyFrom 10 12 (.bipush 24) := ⟨by decide +kernel, rfl⟩
theorem eX9_copyFrom_12 : zd 3 cX9_copyFrom 12 15 (.invokestatic 13) := ⟨by decide +kernel, rfl⟩
theorem eX9_copyFrom_15 : zd 1 cX9_copyFrom 15 16 (.aload_n 0) := ⟨by decide +kernel, rfl⟩
theorem eX9_copyFrom_16 : zd 1 cX9_copyFrom 16 17 (.aload_n 1) := ⟨by decide +kernel, rfl⟩
theorem eX9_copyFrom_17 : zd 3 cX9_copyFrom 17 20 (.getfield 19) := ⟨by decide +kernel, rfl⟩
theorem eX9_copyFrom_20 : zd 3 cX9_copyFrom 20 23 (.putfield 19) := ⟨by decide +kernel, rfl⟩
theorem eX9_copyFrom_23 : zd 1 cX9_copyFrom 23 24 (.return_) := ⟨by decide +kernel, rfl⟩
noncomputable def f_Ti_copyFrom (v0 : tTi) (v1 : tTi)  : (Nat → Int32) × (Nat → Int32) := ((upd (gTi_ints v0) 0 ((gTi_ints v1) 0)), (va_cpy (gTi_heights v1) (gTi_heights v0) 0 0 24))
abbrev rm_Ti_copyFrom : Room := { frames := 1, cells := 0, slots := 0, locals := 60 }
set_option maxHeartbeats 4000000 in
set_option maxRecDepth 100000 in
theorem c_Ti_copyFrom (l : Launch) (g : zGl) (a0 : Nat → Nat) (o0 : Nat) (v0 : tTi) (a1 : Nat → Nat) (o1 : Nat) (v1 : tTi)  (out : (Nat → Int32) × (Nat → Int32)) (hf : f_Ti_copyFrom v0 v1 = out) : zMv l yX9_copyFrom cX9_copyFrom 2 rm_Ti_copyFrom g [.ref (a0 o0), .ref (a1 o1)] (W_Ti g a0 o0 (gTi_ints v0) (gTi_heights v0) ++ W_Ti g a1 o1 (gTi_ints v1) (gTi_heights v1))  (W_Ti g a0 o0 (out.1) (out.2) ++ W_Ti g a1 o1 (gTi_ints v1) (gTi_heights v1)) := by
  refine zMv_of (lv := [(0, .ref (a0 o0)), (1, .ref (a1 o1))]) (by decide) (Nat.le_of_ble_eq_true rfl) rfl (fun x hl hg C hret => ?_)
  subst hl; subst hg
  rw [f_Ti_copyFrom] at hf
  refine r_aload_n C eX9_copyFrom_0 1 rfl rfl ?_
  refine r_get (v := .ref (a1 (o1 + 1))) C eX9_copyFrom_1 FX9_9 2 rfl rfl ?_
  refine r_iconst C (v := 0) eX9_copyFrom_4 (by decide) ?_
  refine r_aload_n C eX9_copyFrom_5 0 rfl rfl ?_
  refine r_get (v := .ref (a0 (o0 + 1))) C eX9_copyFrom_6 FX9_9 0 rfl rfl ?_
  refine r_iconst C (v := 0) eX9_copyFrom_9 (by decide) ?_
  refine r_bipush C (v := 24) eX9_copyFrom_10 (by decide) ?_
  refine r_copy (n := 24) (ws' := W_Ti (z_g x) a0 o0 (gTi_ints v0) (va_cpy (gTi_heights v1) (gTi_heights v0) 0 0 24) ++ W_Ti (z_g x) a1 o1 (gTi_ints v1) (gTi_heights v1)) C eX9_copyFrom_12 q631 (C.ts _ q608) q607 q17 3 1 rfl rfl (by decide) (Nat.le_of_ble_eq_true rfl) (Nat.le_of_ble_eq_true rfl) rfl ?_
  refine r_aload_n C eX9_copyFrom_15 0 rfl rfl ?_
  refine r_aload_n C eX9_copyFrom_16 1 rfl rfl ?_
  refine r_get (v := .int ((gTi_ints v1) 0)) C eX9_copyFrom_17 FX9_19 2 rfl rfl ?_
  refine r_put (ws' := W_Ti (z_g x) a0 o0 (upd (gTi_ints v0) 0 ((gTi_ints v1) 0)) (va_cpy (gTi_heights v1) (gTi_heights v0) 0 0 24) ++ W_Ti (z_g x) a1 o1 (gTi_ints v1) (gTi_heights v1)) C eX9_copyFrom_20 PX9_19 0 rfl rfl rfl (Nat.le_of_ble_eq_true rfl) rfl ?_
  subst hf
  exact hret _ _ _ eX9_copyFrom_23
theorem eX9_hasHour_0 : zd 1 cX9_hasHour 0 1 (.iload_n 1) := ⟨by decide +kernel, rfl⟩
theorem eX9_hasHour_1 : zdi cX9_hasHour 1 4 22 (.ifCond .lt) := ⟨21, by decide +kernel, rfl, by decide⟩
theorem eX9_hasHour_4 : zd 1 cX9_hasHour 4 5 (.iload_n 1) := ⟨by decide +kernel, rfl⟩
theorem eX9_hasHour_5 : zd 1 cX9_hasHour 5 6 (.aload_n 0) := ⟨by decide +kernel, rfl⟩
theorem eX9_hasHour_6 : zd 3 cX9_hasHour 6 9 (.getfield 19) := ⟨by decide +kernel, rfl⟩
theorem eX9_hasHour_9 : zdi cX9_hasHour 9 12 22 (.if_icmp .ge) := ⟨13, by decide +kernel, rfl, by decide⟩
theorem eX9_hasHour_12 : zd 1 cX9_hasHour 12 13 (.iload_n 1) := ⟨by decide +kernel, rfl⟩
theorem eX9_hasHour_13 : zd 2 cX9_hasHour 13 15 (.bipush 24) := ⟨by decide +kernel, rfl⟩
theorem eX9_hasHour_15 : zdi cX9_hasHour 15 18 22 (.if_icmp .ge) := ⟨7, by decide +kernel, rfl, by decide⟩
theorem eX9_hasHour_18 : zd 1 cX9_hasHour 18 19 (.iconst 1) := ⟨by decide +kernel, rfl⟩
theorem eX9_hasHour_19 : zdi cX9_hasHour 19 22 23 (.goto) := ⟨4, by decide +kernel, rfl, by decide⟩
theorem eX9_hasHour_22 : zd 1 cX9_hasHour 22 23 (.iconst 0) := ⟨by decide +kernel, rfl⟩
theorem eX9_hasHour_23 : zd 1 cX9_hasHour 23 24 (.ireturn) := ⟨by decide +kernel, rfl⟩
noncomputable def f_Ti_hasHour (v0 : tTi) (p1 : Int32) : Int32 := (if p1 < 0 then 0 else (if ((gTi_ints v0) 0) ≤ p1 then 0 else (if 24 ≤ p1 then 0 else 1)))
abbrev rm_Ti_hasHour : Room := { frames := 0, cells := 0, slots := 0, locals := 0 }
set_option maxHeartbeats 4000000 in
set_option maxRecDepth 100000 in
theorem c_Ti_hasHour (l : Launch) (g : zGl) (a0 : Nat → Nat) (o0 : Nat) (v0 : tTi) (p1 : Int32) (out : Int32) (hf : f_Ti_hasHour v0 p1 = out) : zMz l yX9_hasHour cX9_hasHour 2 rm_Ti_hasHour g [.ref (a0 o0), .int p1] (W_Ti g a0 o0 (gTi_ints v0) (gTi_heights v0)) out (W_Ti g a0 o0 (gTi_ints v0) (gTi_heights v0)) := by
  refine zMz_of (lv := [(0, .ref (a0 o0)), (1, .int p1)]) (by decide) (Nat.le_of_ble_eq_true rfl) rfl (fun x hl hg C hret => ?_)
  subst hl; subst hg
  rw [f_Ti_hasHour] at hf
  refine r_iload_n C eX9_hasHour_0 1 rfl rfl ?_
  refine r_if_lt C eX9_hasHour_1 (fun c1 => ?_) (fun c1 => ?_)
  · rw [if_pos c1] at hf
    refine r_iconst C (v := 0) eX9_hasHour_22 (by decide) ?_
    subst hf
    exact hret _ _ _ eX9_hasHour_23 zB0
  · rw [if_neg c1] at hf
    refine r_iload_n C eX9_hasHour_4 1 rfl rfl ?_
    refine r_aload_n C eX9_hasHour_5 0 rfl rfl ?_
    refine r_get (v := .int ((gTi_ints v0) 0)) C eX9_hasHour_6 FX9_19 0 rfl rfl ?_
    refine r_icmp_ge C eX9_hasHour_9 (fun c2 => ?_) (fun c2 => ?_)
    · rw [if_pos c2] at hf
      refine r_iconst C (v := 0) eX9_hasHour_22 (by decide) ?_
      subst hf
      exact hret _ _ _ eX9_hasHour_23 zB0
    · rw [if_neg c2] at hf
      refine r_iload_n C eX9_hasHour_12 1 rfl rfl ?_
      refine r_bipush C (v := 24) eX9_hasHour_13 (by decide) ?_
      refine r_icmp_ge C eX9_hasHour_15 (fun c3 => ?_) (fun c3 => ?_)
      · rw [if_pos c3] at hf
        refine r_iconst C (v := 0) eX9_hasHour_22 (by decide) ?_
        subst hf
        exact hret _ _ _ eX9_hasHour_23 zB0
      · rw [if_neg c3] at hf
        refine r_iconst C (v := 1) eX9_hasHour_18 (by decide) ?_
        refine r_goto C eX9_hasHour_19 ?_
        subst hf
        exact hret _ _ _ eX9_hasHour_23 zB1
theorem eX9_heightAt_0 : zd 1 cX9_heightAt 0 1 (.aload_n 0) := ⟨by decide +kernel, rfl⟩
theorem eX9_heightAt_1 : zd 1 cX9_heightAt 1 2 (.iload_n 1) := ⟨by decide +kernel, rfl⟩
theorem eX9_heightAt_2 : zd 3 cX9_heightAt 2 5 (.invokevirtual 23) := ⟨by decide +kernel, rfl⟩
theorem eX9_heightAt_5 : zdi cX9_heightAt 5 8 17 (.ifCond .eq) := ⟨12, by decide +kernel, rfl, by decide⟩
theorem eX9_heightAt_8 : zd 1 cX9_heightAt 8 9 (.aload_n 0) := ⟨by decide +kernel, rfl⟩
theorem eX9_heightAt_9 : zd 3 cX9_heightAt 9 12 (.getfield 9) := ⟨by decide +kernel, rfl⟩
theorem eX9_heightAt_12 : zd 1 cX9_heightAt 12 13 (.iload_n 1) := ⟨by decide +kernel, rfl⟩
theorem eX9_heightAt_13 : zd 1 cX9_heightAt 13 14 (.iaload) := ⟨by decide +kernel, rfl⟩
theorem eX9_heightAt_14 : zdi cX9_heightAt 14 17 18 (.goto) := ⟨4, by decide +kernel, rfl, by decide⟩
theorem eX9_heightAt_17 : zd 1 cX9_heightAt 17 18 (.iconst 0) := ⟨by decide +kernel, rfl⟩
theorem eX9_heightAt_18 : zd 1 cX9_heightAt 18 19 (.ireturn) := ⟨by decide +kernel, rfl⟩
theorem MX9_23 : zlV RX9 23 yX9_hasHour cX9_hasHour 2 ((Option.some FieldType.boolean)) 1 := ⟨q963, q949, q950, q6, q951, by decide, by decide, by decide +kernel⟩
noncomputable def f_Ti_heightAt (v0 : tTi) (p1 : Int32) : Option (Int32) := (if (f_Ti_hasHour v0 p1) = 0 then (some 0) else (if inb p1 24 = true then (some ((gTi_heights v0) (ix p1))) else none))
abbrev rm_Ti_heightAt : Room := { frames := 1, cells := 0, slots := 0, locals := 21 }
set_option maxHeartbeats 4000000 in
set_option maxRecDepth 100000 in
theorem c_Ti_heightAt (l : Launch) (g : zGl) (a0 : Nat → Nat) (o0 : Nat) (v0 : tTi) (p1 : Int32) (out : Int32) (hf : f_Ti_heightAt v0 p1 = some out) : zMi l yX9_heightAt cX9_heightAt 2 rm_Ti_heightAt g [.ref (a0 o0), .int p1] (W_Ti g a0 o0 (gTi_ints v0) (gTi_heights v0)) out (W_Ti g a0 o0 (gTi_ints v0) (gTi_heights v0)) := by
  refine zMi_of (lv := [(0, .ref (a0 o0)), (1, .int p1)]) (by decide) (Nat.le_of_ble_eq_true rfl) rfl (fun x hl hg C hret => ?_)
  subst hl; subst hg
  rw [f_Ti_heightAt] at hf
  refine r_aload_n C eX9_heightAt_0 0 rfl rfl ?_
  refine r_iload_n C eX9_heightAt_1 1 rfl rfl ?_
  refine r_V_z (ws' := W_Ti (z_g x) a0 o0 (gTi_ints v0) (gTi_heights v0)) C (c_Ti_hasHour (z_l x) (z_g x) a0 o0 v0 p1 _ rfl) eX9_heightAt_2 MX9_23 ⟨0, 9, _, _, rfl, rfl, rfl⟩ [0, 1] rfl rfl rfl rfl [] rfl trivial 2 rfl rfl rfl rfl rfl rfl (fun zb1 => ?_)
  refine r_if_eq C eX9_heightAt_5 (fun c2 => ?_) (fun c2 => ?_)
  · rw [if_pos c2] at hf
    refine r_iconst C (v := 0) eX9_heightAt_17 (by decide) ?_
    obtain rfl := Option.some.inj (show some (0 : Int32) = some _ from hf)
    exact hret _ _ _ eX9_heightAt_18
  · rw [if_neg c2] at hf
    refine r_aload_n C eX9_heightAt_8 0 rfl rfl ?_
    refine r_get (v := .ref (a0 (o0 + 1))) C eX9_heightAt_9 FX9_9 0 rfl rfl ?_
    refine r_iload_n C eX9_heightAt_12 1 rfl rfl ?_
    obtain ⟨hb3, hf⟩ := zchk hf
    refine r_iald C eX9_heightAt_13 1 rfl (inb_in hb3) ((gTi_heights v0) (ix p1)) rfl ?_
    refine r_goto C eX9_heightAt_14 ?_
    obtain rfl := Option.some.inj (show some (((gTi_heights v0) (ix p1)) : Int32) = some _ from hf)
    exact hret _ _ _ eX9_heightAt_18
