theorem eX8_isWord_0 : zd 1 cX8_isWord 0 1 (.iload_n 2) := ⟨by decide +kernel, rfl⟩
theorem eX8_isWord_1 : zd 1 cX8_isWord 1 2 (.iload_n 1) := ⟨by decide +kernel, rfl⟩
theorem eX8_isWord_2 : zd 1 cX8_isWord 2 3 (.isub) := ⟨by decide +kernel, rfl⟩
theorem eX8_isWord_3 : zd 1 cX8_isWord 3 4 (.aload_n 3) := ⟨by decide +kernel, rfl⟩
theorem eX8_isWord_4 : zd 3 cX8_isWord 4 7 (.invokevirtual 28) := ⟨by decide +kernel, rfl⟩
theorem eX8_isWord_7 : zdi cX8_isWord 7 10 12 (.if_icmp .eq) := ⟨5, by decide +kernel, rfl, by decide⟩
theorem eX8_isWord_10 : zd 1 cX8_isWord 10 11 (.iconst 0) := ⟨by decide +kernel, rfl⟩
theorem eX8_isWord_11 : zd 1 cX8_isWord 11 12 (.ireturn) := ⟨by decide +kernel, rfl⟩
theorem eX8_isWord_12 : zd 1 cX8_isWord 12 13 (.iconst 0) := ⟨by decide +kernel, rfl⟩
theorem eX8_isWord_13 : zd 2 cX8_isWord 13 15 (.istore 4) := ⟨by decide +kernel, rfl⟩
theorem eX8_isWord_15 : zd 2 cX8_isWord 15 17 (.iload 4) := ⟨by decide +kernel, rfl⟩
theorem eX8_isWord_17 : zd 1 cX8_isWord 17 18 (.aload_n 3) := ⟨by decide +kernel, rfl⟩
theorem eX8_isWord_18 : zd 3 cX8_isWord 18 21 (.invokevirtual 28) := ⟨by decide +kernel, rfl⟩
theorem eX8_isWord_21 : zdi cX8_isWord 21 24 49 (.if_icmp .ge) := ⟨28, by decide +kernel, rfl, by decide⟩
theorem eX8_isWord_24 : zd 1 cX8_isWord 24 25 (.aload_n 0) := ⟨by decide +kernel, rfl⟩
theorem eX8_isWord_25 : zd 1 cX8_isWord 25 26 (.iload_n 1) := ⟨by decide +kernel, rfl⟩
theorem eX8_isWord_26 : zd 2 cX8_isWord 26 28 (.iload 4) := ⟨by decide +kernel, rfl⟩
theorem eX8_isWord_28 : zd 1 cX8_isWord 28 29 (.iadd) := ⟨by decide +kernel, rfl⟩
theorem eX8_isWord_29 : zd 3 cX8_isWord 29 32 (.invokevirtual 17) := ⟨by decide +kernel, rfl⟩
theorem eX8_isWord_32 : zd 1 cX8_isWord 32 33 (.aload_n 3) := ⟨by decide +kernel, rfl⟩
theorem eX8_isWord_33 : zd 2 cX8_isWord 33 35 (.iload 4) := ⟨by decide +kernel, rfl⟩
theorem eX8_isWord_35 : zd 3 cX8_isWord 35 38 (.invokevirtual 34) := ⟨by decide +kernel, rfl⟩
theorem eX8_isWord_38 : zdi cX8_isWord 38 41 43 (.if_icmp .eq) := ⟨5, by decide +kernel, rfl, by decide⟩
theorem eX8_isWord_41 : zd 1 cX8_isWord 41 42 (.iconst 0) := ⟨by decide +kernel, rfl⟩
theorem eX8_isWord_42 : zd 1 cX8_isWord 42 43 (.ireturn) := ⟨by decide +kernel, rfl⟩
theorem eX8_isWord_43 : zd 3 cX8_isWord 43 46 (.iinc 4 1) := ⟨by decide +kernel, rfl⟩
theorem eX8_isWord_46 : zdi cX8_isWord 46 49 15 (.goto) := ⟨(-31), by decide +kernel, rfl, by decide⟩
theorem eX8_isWord_49 : zd 1 cX8_isWord 49 50 (.iconst 1) := ⟨by decide +kernel, rfl⟩
theorem eX8_isWord_50 : zd 1 cX8_isWord 50 51 (.ireturn) := ⟨by decide +kernel, rfl⟩
noncomputable def fB_Te_isWord_15 (v0 : tTe) (p1 : Int32) (k1 : Nat) (ih : (Int32) → Option ((Int32) ⊕ (Int32))) (s2 : Int32) : Option ((Int32) ⊕ (Int32)) := (if (zsl k1) ≤ s2 then (some (Sum.inr s2)) else (Option.bind (f_Te_byteAt v0 (p1 + s2)) (fun (r8 : Int32) => (if inb s2 (zLen.getD k1 0) = true then (if r8 = (zsc k1 s2) then (ih (s2 + 1)) else (some (Sum.inl 0))) else none))))
noncomputable def f_Te_isWord (v0 : tTe) (p1 : Int32) (p2 : Int32) (k1 : Nat) : Option (Int32) := (if (p2 - p1) = (zsl k1) then (Option.bind (lp (fB_Te_isWord_15 v0 p1 k1) LF 0) (fun (q3 : (Int32) ⊕ (Int32)) => Sum.elim (fun r => (some r)) (fun (s2e : Int32) => (some 1)) q3)) else (some 0))
abbrev rm_Te_isWord : Room := { frames := 4, cells := 0, slots := 0, locals := 85 }
set_option maxHeartbeats 4000000 in
set_option maxRecDepth 100000 in
theorem c_Te_isWord (l : Launch) (g : zGl) (a0 : Nat → Nat) (o0 : Nat) (v0 : tTe) (p1 : Int32) (p2 : Int32) (k1 : Nat) (hk1 : k1 < 11) (out : Int32) (hf : f_Te_isWord v0 p1 p2 k1 = some out) : zMz l yX8_isWord cX8_isWord 5 rm_Te_isWord g [.ref (a0 o0), .int p1, .int p2, .ref (g.2.2.1 k1)] (W_Te g a0 o0 (gTe_ints v0) (gTe_bytes v0)) out (W_Te g a0 o0 (gTe_ints v0) (gTe_bytes v0)) := by
  refine zMz_of (lv := [(0, .ref (a0 o0)), (1, .int p1), (2, .int p2), (3, .ref (g.2.2.1 k1))]) (by decide) (Nat.le_of_ble_eq_true rfl) rfl (fun x hl hg C hret => ?_)
  subst hl; subst hg
  rw [f_Te_isWord] at hf
  refine r_iload_n C eX8_isWord_0 2 rfl rfl ?_
  refine r_iload_n C eX8_isWord_1 1 rfl rfl ?_
  refine r_isub C eX8_isWord_2 ?_
  refine r_aload_n C eX8_isWord_3 3 rfl rfl ?_
  refine r_VS_i C (c_St_length (z_l x) (z_g x) k1 hk1) eX8_isWord_4 MX8_28 hk1 rfl rfl rfl rfl rfl rfl ?_
  refine r_icmp_eq C eX8_isWord_7 (fun c1 => ?_) (fun c1 => ?_)
  · rw [if_pos c1] at hf
    refine r_iconst C (v := 0) eX8_isWord_12 (by decide) ?_
    refine r_istore C [(4, .int 0), (0, .ref (a0 o0)), (1, .int p1), (2, .int p2), (3, .ref ((z_g x).2.2.1 k1))] eX8_isWord_13 (by decide) rfl ?_
    obtain ⟨q3, h4, hf⟩ := zbind hf
    have J5 : ∀ s2e : Int32, q3 = Sum.inr s2e → vV x 5 0 0 (W_Te (z_g x) a0 o0 (gTe_ints v0) (gTe_bytes v0)) 49 [] [] := by
      intro s2e hs
      subst hs
      rw [Sum.elim_inr] at hf
      refine r_iconst C (v := 1) eX8_isWord_49 (by decide) ?_
      obtain rfl := Option.some.inj (show some (1 : Int32) = some _ from hf)
      exact hret _ _ _ eX8_isWord_50 zB1
    have L6 : ∀ (nL6 : Nat) (s2 : Int32), lp (fB_Te_isWord_15 v0 p1 k1) nL6 s2 = some q3 → vV x 5 0 0 (W_Te (z_g x) a0 o0 (gTe_ints v0) (gTe_bytes v0)) 15 [(0, .ref (a0 o0)), (1, .int p1), (3, .ref ((z_g x).2.2.1 k1)), (4, .int s2)] [] := by
      intro nL6
      induction nL6 with
      | zero => intro s2 hq; cases hq
      | succ nL6 ihL6 =>
        intro s2 hbL6
        rw [lp_succ, fB_Te_isWord_15] at hbL6
        refine r_iload C eX8_isWord_15 3 rfl ?_
        refine r_aload_n C eX8_isWord_17 2 rfl rfl ?_
        refine r_VS_i C (c_St_length (z_l x) (z_g x) k1 hk1) eX8_isWord_18 MX8_28 hk1 rfl rfl rfl rfl rfl rfl ?_
        refine r_icmp_ge C eX8_isWord_21 (fun c7 => ?_) (fun c7 => ?_)
        · rw [if_pos c7] at hbL6
          obtain rfl := Option.some.inj hbL6
          refine r_sub (lv' := []) [] rfl ?_
          exact J5 _ rfl
        · rw [if_neg c7] at hbL6
          refine r_aload_n C eX8_isWord_24 0 rfl rfl ?_
          refine r_iload_n C eX8_isWord_25 1 rfl rfl ?_
          refine r_iload C eX8_isWord_26 3 rfl ?_
          refine r_iadd C eX8_isWord_28 ?_
          obtain ⟨r8, hr8, hbL6⟩ := zbind hbL6
          refine r_V_i (ws' := W_Te (z_g x) a0 o0 (gTe_ints v0) (gTe_bytes v0)) C (c_Te_byteAt (z_l x) (z_g x) a0 o0 v0 (p1 + s2) r8 hr8) eX8_isWord_29 MX8_17 ⟨0, 8, _, _, rfl, rfl, rfl⟩ [0, 1] rfl rfl rfl rfl [] rfl trivial 2 rfl rfl rfl rfl rfl rfl ?_
          refine r_aload_n C eX8_isWord_32 2 rfl rfl ?_
          refine r_iload C eX8_isWord_33 3 rfl ?_
          obtain ⟨hb9, hbL6⟩ := zchk hbL6
          refine r_VS_t C (c_St_charAt (z_l x) (z_g x) k1 hk1 s2 hb9) eX8_isWord_35 MX8_34 hk1 rfl rfl rfl rfl rfl rfl (fun _ => ?_)
          refine r_icmp_eq C eX8_isWord_38 (fun c10 => ?_) (fun c10 => ?_)
          · rw [if_pos c10] at hbL6
            refine r_iinc C (v := (s2 + 1)) [(4, .int (s2 + 1)), (0, .ref (a0 o0)), (1, .int p1), (3, .ref ((z_g x).2.2.1 k1))] eX8_isWord_43 3 rfl rfl (by decide) rfl ?_
            refine r_goto C eX8_isWord_46 ?_
            refine r_sub (lv' := [(0, .ref (a0 o0)), (1, .int p1), (3, .ref ((z_g x).2.2.1 k1)), (4, .int (s2 + 1))]) [1, 2, 3, 0] rfl ?_
            have hc := ihL6 (s2 + 1) hbL6
            exact hc
          · rw [if_neg c10] at hbL6
            refine r_iconst C (v := 0) eX8_isWord_41 (by decide) ?_
            obtain rfl := Option.some.inj (show some (Sum.inl (0 : Int32)) = some _ from hbL6)
            obtain rfl := Option.some.inj (show some (0 : Int32) = some _ from hf)
            exact hret _ _ _ eX8_isWord_42 zB0
    refine r_sub (lv' := [(0, .ref (a0 o0)), (1, .int p1), (3, .ref ((z_g x).2.2.1 k1)), (4, .int 0)]) [1, 2, 4, 0] rfl ?_
    have hc := L6 LF 0 h4
    exact hc
  · rw [if_neg c1] at hf
    refine r_iconst C (v := 0) eX8_isWord_10 (by decide) ?_
    obtain rfl := Option.some.inj (show some (0 : Int32) = some _ from hf)
    exact hret _ _ _ eX8_isWord_11 zB0
theorem eX5_wordOf_0 : zd 1 cX5_wordOf 0 1 (.iload_n 0) := ⟨by decide +kernel, rfl⟩
theorem eX5_wordOf_1 : decode cX5_wordOf 1 = .ok (.tableswitch 85 0 9 #[55, 58, 61, 64, 67, 70, 73, 76, 79, 82], 55) := by decide +kernel
theorem eX5_wordOf_56 : zd 2 cX5_wordOf 56 58 (.ldc 151) := ⟨by decide +kernel, rfl⟩
theorem eX5_wordOf_58 : zd 1 cX5_wordOf 58 59 (.areturn) := ⟨by decide +kernel, rfl⟩
theorem eX5_wordOf_59 : zd 2 cX5_wordOf 59 61 (.ldc 153) := ⟨by decide +kernel, rfl⟩
theorem eX5_wordOf_61 : zd 1 cX5_wordOf 61 62 (.areturn) := ⟨by decide +kernel, rfl⟩
theorem eX5_wordOf_62 : zd 2 cX5_wordOf 62 64 (.ldc 155) := ⟨by decide +kernel, rfl⟩
theorem eX5_wordOf_64 : zd 1 cX5_wordOf 64 65 (.areturn) := ⟨by decide +kernel, rfl⟩
theorem eX5_wordOf_65 : zd 2 cX5_wordOf 65 67 (.ldc 157) := ⟨by decide +kernel, rfl⟩
theorem eX5_wordOf_67 : zd 1 cX5_wordOf 67 68 (.areturn) := ⟨by decide +kernel, rfl⟩
theorem eX5_wordOf_68 : zd 2 cX5_wordOf 68 70 (.ldc 159) := ⟨by decide +kernel, rfl⟩
theorem eX5_wordOf_70 : zd 1 cX5_wordOf 70 71 (.areturn) := ⟨by decide +kernel, rfl⟩
theorem eX5_wordOf_71 : zd 2 cX5_wordOf 71 73 (.ldc 161) := ⟨by decide +kernel, rfl⟩
theorem eX5_wordOf_73 : zd 1 cX5_wordOf 73 74 (.areturn) := ⟨by decide +kernel, rfl⟩
theorem eX5_wordOf_74 : zd 2 cX5_wordOf 74 76 (.ldc 163) := ⟨by decide +kernel, rfl⟩
theorem eX5_wordOf_76 : zd 1 cX5_wordOf 76 77 (.areturn) := ⟨by decide +kernel, rfl⟩
theorem eX5_wordOf_77 : zd 2 cX5_wordOf 77 79 (.ldc 165) := ⟨by decide +kernel, rfl⟩
theorem eX5_wordOf_79 : zd 1 cX5_wordOf 79 80 (.areturn) := ⟨by decide +kernel, rfl⟩
theorem eX5_wordOf_80 : zd 2 cX5_wordOf 80 82 (.ldc 167) := ⟨by decide +kernel, rfl⟩
theorem eX5_wordOf_82 : zd 1 cX5_wordOf 82 83 (.areturn) := ⟨by decide +kernel, rfl⟩
theorem eX5_wordOf_83 : zd 2 cX5_wordOf 83 85 (.ldc 169) := ⟨by decide +kernel, rfl⟩
theorem eX5_wordOf_85 : zd 1 cX5_wordOf 85 86 (.areturn) := ⟨by decide +kernel, rfl⟩
theorem eX5_wordOf_86 : zd 2 cX5_wordOf 86 88 (.ldc 170) := ⟨by decide +kernel, rfl⟩
theorem eX5_wordOf_88 : zd 1 cX5_wordOf 88 89 (.areturn) := ⟨by decide +kernel, rfl⟩
noncomputable def f_Re_wordOf  (p1 : Int32) : Nat := (if p1 = 0 then 0 else (if p1 = 1 then 1 else (if p1 = 2 then 2 else (if p1 = 3 then 3 else (if p1 = 4 then 4 else (if p1 = 5 then 5 else (if p1 = 6 then 6 else (if p1 = 7 then 7 else (if p1 = 8 then 8 else (if p1 = 9 then 9 else 10))))))))))
abbrev rm_Re_wordOf : Room := { frames := 0, cells := 0, slots := 0, locals := 0 }
set_option maxHeartbeats 4000000 in
set_option maxRecDepth 100000 in
theorem c_Re_wordOf (l : Launch) (g : zGl)  (p1 : Int32) (out : Nat) (hf : f_Re_wordOf p1 = out) : zMs l yX5_wordOf cX5_wordOf 1 rm_Re_wordOf g [.int p1] ([]) (g.2.2.1 out) ([]) := by
  refine zMs_of (lv := [(0, .int p1)]) (by decide) (Nat.le_of_ble_eq_true rfl) rfl (fun x hl hg C hret => ?_)
  subst hl; subst hg
  rw [f_Re_wordOf] at hf
  refine r_iload_n C eX5_wordOf_0 0 rfl rfl ?_
  by_cases c1 : p1 = 0
  · rw [if_pos c1] at hf
    refine r_tabIn C (v := 0) eX5_wordOf_1 c1 55 56 ⟨by decide, rfl, by decide⟩ ?_
    refine r_ldcS C (k := 0) eX5_wordOf_56 rfl ?_
    subst hf
    exact hret _ _ _ eX5_wordOf_58
  rw [if_neg c1] at hf
  by_cases c2 : p1 = 1
  · rw [if_pos c2] at hf
    refine r_tabIn C (v := 1) eX5_wordOf_1 c2 58 59 ⟨by decide, rfl, by decide⟩ ?_
    refine r_ldcS C (k := 1) eX5_wordOf_59 rfl ?_
    subst hf
    exact hret _ _ _ eX5_wordOf_61
  rw [if_neg c2] at hf
  by_cases c3 : p1 = 2
  · rw [if_pos c3] at hf
    refine r_tabIn C (v := 2) eX5_wordOf_1 c3 61 62 ⟨by decide, rfl, by decide⟩ ?_
    refine r_ldcS C (k := 2) eX5_wordOf_62 rfl ?_
    subst hf
    exact hret _ _ _ eX5_wordOf_64
  rw [if_neg c3] at hf
  by_cases c4 : p1 = 3
  · rw [if_pos c4] at hf
    refine r_tabIn C (v := 3) eX5_wordOf_1 c4 64 65 ⟨by decide, rfl, by decide⟩ ?_
    refine r_ldcS C (k := 3) eX5_wordOf_65 rfl ?_
    subst hf
    exact hret _ _ _ eX5_wordOf_67
  rw [if_neg c4] at hf
  by_cases c5 : p1 = 4
  · rw [if_pos c5] at hf
    refine r_tabIn C (v := 4) eX5_wordOf_1 c5 67 68 ⟨by decide, rfl, by decide⟩ ?_
    refine r_ldcS C (k := 4) eX5_wordOf_68 rfl ?_
    subst hf
    exact hret _ _ _ eX5_wordOf_70
  rw [if_neg c5] at hf
  by_cases c6 : p1 = 5
  · rw [if_pos c6] at hf
    refine r_tabIn C (v := 5) eX5_wordOf_1 c6 70 71 ⟨by decide, rfl, by decide⟩ ?_
    refine r_ldcS C (k := 5) eX5_wordOf_71 rfl ?_
    subst hf
    exact hret _ _ _ eX5_wordOf_73
  rw [if_neg c6] at hf
  by_cases c7 : p1 = 6
  · rw [if_pos c7] at hf
    refine r_tabIn C (v := 6) eX5_wordOf_1 c7 73 74 ⟨by decide, rfl, by decide⟩ ?_
    refine r_ldcS C (k := 6) eX5_wordOf_74 rfl ?_
    subst hf
    exact hret _ _ _ eX5_wordOf_76
  rw [if_neg c7] at hf
  by_cases c8 : p1 = 7
  · rw [if_pos c8] at hf
    refine r_tabIn C (v := 7) eX5_wordOf_1 c8 76 77 ⟨by decide, rfl, by decide⟩ ?_
    refine r_ldcS C (k := 7) eX5_wordOf_77 rfl ?_
    subst hf
    exact hret _ _ _ eX5_wordOf_79
  rw [if_neg c8] at hf
  by_cases c9 : p1 = 8
  · rw [if_pos c9] at hf
    refine r_tabIn C (v := 8) eX5_wordOf_1 c9 79 80 ⟨by decide, rfl, by decide⟩ ?_
    refine r_ldcS C (k := 8) eX5_wordOf_80 rfl ?_
    subst hf
    exact hret _ _ _ eX5_wordOf_82
  rw [if_neg c9] at hf
  by_cases c10 : p1 = 9
  · rw [if_pos c10] at hf
    refine r_tabIn C (v := 9) eX5_wordOf_1 c10 82 83 ⟨by decide, rfl, by decide⟩ ?_
    refine r_ldcS C (k := 9) eX5_wordOf_83 rfl ?_
    subst hf
    exact hret _ _ _ eX5_wordOf_85
  rw [if_neg c10] at hf
  refine r_tabOut C eX5_wordOf_1 (fun i h1 h2 => by rcases (show i = 0 ∨ i = 1 ∨ i = 2 ∨ i = 3 ∨ i = 4 ∨ i = 5 ∨ i = 6 ∨ i = 7 ∨ i = 8 ∨ i = 9 by omega) with rfl | rfl | rfl | rfl | rfl | rfl | rfl | rfl | rfl | rfl <;> assumption) 86 (by decide) ?_
  refine r_ldcS C (k := 10) eX5_wordOf_86 rfl ?_
  subst hf
  exact hret _ _ _ eX5_wordOf_88
theorem f_Re_wordOf_lt (p : Int32) : f_Re_wordOf p < 11 := by unfold f_Re_wordOf; (repeat' split) <;> decide
theorem eX5_clauseOf_0 : zd 3 cX5_clauseOf 0 3 (.getstatic 137) := ⟨by decide +kernel, rfl⟩
theorem eX5_clauseOf_3 : zd 1 cX5_clauseOf 3 4 (.iload_n 1) := ⟨by decide +kernel, rfl⟩
theorem eX5_clauseOf_4 : zd 1 cX5_clauseOf 4 5 (.iaload) := ⟨by decide +kernel, rfl⟩
theorem eX5_clauseOf_5 : zd 2 cX5_clauseOf 5 7 (.istore 4) := ⟨by decide +kernel, rfl⟩
theorem eX5_clauseOf_7 : zd 2 cX5_clauseOf 7 9 (.iload 4) := ⟨by decide +kernel, rfl⟩
theorem eX5_clauseOf_9 : zd 3 cX5_clauseOf 9 12 (.getstatic 140) := ⟨by decide +kernel, rfl⟩
theorem eX5_clauseOf_12 : zd 1 cX5_clauseOf 12 13 (.iload_n 1) := ⟨by decide +kernel, rfl⟩
theorem eX5_clauseOf_13 : zd 1 cX5_clauseOf 13 14 (.iaload) := ⟨by decide +kernel, rfl⟩
theorem eX5_clauseOf_14 : zdi cX5_clauseOf 14 17 40 (.if_icmp .gt) := ⟨26, by decide +kernel, rfl, by decide⟩
theorem eX5_clauseOf_17 : zd 1 cX5_clauseOf 17 18 (.aload_n 0) := ⟨by decide +kernel, rfl⟩
theorem eX5_clauseOf_18 : zd 1 cX5_clauseOf 18 19 (.iload_n 2) := ⟨by decide +kernel, rfl⟩
theorem eX5_clauseOf_19 : zd 1 cX5_clauseOf 19 20 (.iload_n 3) := ⟨by decide +kernel, rfl⟩
theorem eX5_clauseOf_20 : zd 2 cX5_clauseOf 20 22 (.iload 4) := ⟨by decide +kernel, rfl⟩
theorem eX5_clauseOf_22 : zd 3 cX5_clauseOf 22 25 (.invokestatic 143) := ⟨by decide +kernel, rfl⟩
theorem eX5_clauseOf_25 : zd 3 cX5_clauseOf 25 28 (.invokevirtual 147) := ⟨by decide +kernel, rfl⟩
theorem eX5_clauseOf_28 : zdi cX5_clauseOf 28 31 34 (.ifCond .eq) := ⟨6, by decide +kernel, rfl, by decide⟩
theorem eX5_clauseOf_31 : zd 2 cX5_clauseOf 31 33 (.iload 4) := ⟨by decide +kernel, rfl⟩
theorem eX5_clauseOf_33 : zd 1 cX5_clauseOf 33 34 (.ireturn) := ⟨by decide +kernel, rfl⟩
theorem eX5_clauseOf_34 : zd 3 cX5_clauseOf 34 37 (.iinc 4 1) := ⟨by decide +kernel, rfl⟩
theorem eX5_clauseOf_37 : zdi cX5_clauseOf 37 40 7 (.goto) := ⟨(-30), by decide +kernel, rfl, by decide⟩
theorem eX5_clauseOf_40 : zd 1 cX5_clauseOf 40 41 (.iconst (-1)) := ⟨by decide +kernel, rfl⟩
theorem eX5_clauseOf_41 : zd 1 cX5_clauseOf 41 42 (.ireturn) := ⟨by decide +kernel, rfl⟩
theorem MX5_143 : zlS RX5 143 yX5_wordOf cX5_wordOf 1 ((Option.some (FieldType.object "java/lang/String"))) 1 := ⟨q469, q470, q3, q471, by decide, by decide, by decide +kernel⟩
theorem MX5_147 : zlV RX5 147 yX8_isWord cX8_isWord 5 ((Option.some FieldType.boolean)) 3 := ⟨q483, q484, q485, q2, q486, by decide, by decide, by decide +kernel⟩
noncomputable def fB_Re_clauseOf_7 (v0 : tTe) (p1 : Int32) (p2 : Int32) (p3 : Int32) (ih : (Int32) → Option ((Int32) ⊕ (Int32))) (s4 : Int32) : Option ((Int32) ⊕ (Int32)) := (if inb p1 3 = true then (if (zT_LAST_CLAUSE.getD (ix p1) 0) < s4 then (some (Sum.inr s4)) else (Option.bind (f_Te_isWord v0 p2 p3 (f_Re_wordOf s4)) (fun (r13 : Int32) => (if r13 = 0 then (ih (s4 + 1)) else (some (Sum.inl s4)))))) else none)
noncomputable def f_Re_clauseOf (v0 : tTe) (p1 : Int32) (p2 : Int32) (p3 : Int32) : Option (Int32) := (if inb p1 3 = true then (Option.bind (lp (fB_Re_clauseOf_7 v0 p1 p2 p3) LF (zT_FIRST_CLAUSE.getD (ix p1) 0)) (fun (q5 : (Int32) ⊕ (Int32)) => Sum.elim (fun r => (some r)) (fun (s4e : Int32) => (some (-1))) q5)) else none)
abbrev rm_Re_clauseOf : Room := { frames := 5, cells := 0, slots := 0, locals := 109 }
set_option maxHeartbeats 4000000 in
set_option maxRecDepth 100000 in
theorem c_Re_clauseOf (l : Launch) (g : zGl) (a0 : Nat → Nat) (o0 : Nat) (v0 : tTe) (p1 : Int32) (p2 : Int32) (p3 : Int32) (out : Int32) (hf : f_Re_clauseOf v0 p1 p2 p3 = some out) : zMi l yX5_clauseOf cX5_clauseOf 5 rm_Re_clauseOf g [.ref (a0 o0), .int p1, .int p2, .int p3] (W_Te g a0 o0 (gTe_ints v0) (gTe_bytes v0)) out (W_Te g a0 o0 (gTe_ints v0) (gTe_bytes v0)) := by
  refine zMi_of (lv := [(0, .ref (a0 o0)), (1, .int p1), (2, .int p2), (3, .int p3)]) (by decide) (Nat.le_of_ble_eq_true rfl) rfl (fun x hl hg C hret => ?_)
  subst hl; subst hg
  rw [f_Re_clauseOf] at hf
  refine r_stab C (f := zT_FIRST_CLAUSE) eX5_clauseOf_0 (List.mem_of_getElem? (i := 8) rfl) q465 (fun tt1 hT2 => ?_)
  refine r_iload_n C eX5_clauseOf_3 1 rfl rfl ?_
  obtain ⟨hb3, hf⟩ := zchk hf
  refine r_tld C hT2 eX5_clauseOf_4 (inb_in hb3) ?_
  refine r_istore C [(4, .int (zT_FIRST_CLAUSE.getD (ix p1) 0)), (0, .ref (a0 o0)), (1, .int p1), (2, .int p2), (3, .int p3)] eX5_clauseOf_5 (by decide) rfl ?_
  obtain ⟨q5, h6, hf⟩ := zbind hf
  have J7 : ∀ s4e : Int32, q5 = Sum.inr s4e → vV x 5 0 0 (W_Te (z_g x) a0 o0 (gTe_ints v0) (gTe_bytes v0)) 40 [] [] := by
    intro s4e hs
    subst hs
    rw [Sum.elim_inr] at hf
    refine r_iconst C (v := (-1)) eX5_clauseOf_40 (by decide) ?_
    obtain rfl := Option.some.inj (show some ((-1) : Int32) = some _ from hf)
    exact hret _ _ _ eX5_clauseOf_41
  have L8 : ∀ (nL8 : Nat) (s4 : Int32), lp (fB_Re_clauseOf_7 v0 p1 p2 p3) nL8 s4 = some q5 → vV x 5 0 0 (W_Te (z_g x) a0 o0 (gTe_ints v0) (gTe_bytes v0)) 7 [(0, .ref (a0 o0)), (1, .int p1), (2, .int p2), (3, .int p3), (4, .int s4)] [] := by
    intro nL8
    induction nL8 with
    | zero => intro s4 hq; cases hq
    | succ nL8 ihL8 =>
      intro s4 hbL8
      rw [lp_succ, fB_Re_clauseOf_7] at hbL8
      refine r_iload C eX5_clauseOf_7 4 rfl ?_
      refine r_stab C (f := zT_LAST_CLAUSE) eX5_clauseOf_9 (List.mem_of_getElem? (i := 9) rfl) q467 (fun tt9 hT10 => ?_)
      refine r_iload_n C eX5_clauseOf_12 1 rfl rfl ?_
      obtain ⟨hb11, hbL8⟩ := zchk hbL8
      refine r_tld C hT10 eX5_clauseOf_13 (inb_in hb11) ?_
      refine r_icmp_gt C eX5_clauseOf_14 (fun c12 => ?_) (fun c12 => ?_)
      · rw [if_pos c12] at hbL8
        obtain rfl := Option.some.inj hbL8
        refine r_sub (lv' := []) [] rfl ?_
        exact J7 _ rfl
      · rw [if_neg c12] at hbL8
        refine r_aload_n C eX5_clauseOf_17 0 rfl rfl ?_
        refine r_iload_n C eX5_clauseOf_18 2 rfl rfl ?_
        refine r_iload_n C eX5_clauseOf_19 3 rfl rfl ?_
        refine r_iload C eX5_clauseOf_20 4 rfl ?_
        refine r_SS_s C (c_Re_wordOf (z_l x) (z_g x)  s4 _ rfl) eX5_clauseOf_22 MX5_143 rfl rfl rfl rfl rfl ?_
        obtain ⟨r13, hr13, hbL8⟩ := zbind hbL8
        refine r_V_z (ws' := W_Te (z_g x) a0 o0 (gTe_ints v0) (gTe_bytes v0)) C (c_Te_isWord (z_l x) (z_g x) a0 o0 v0 p2 p3 (f_Re_wordOf s4) (f_Re_wordOf_lt s4) r13 hr13) eX5_clauseOf_25 MX5_147 ⟨0, 8, _, _, rfl, rfl, rfl⟩ [0, 1] rfl rfl rfl rfl [] rfl trivial 2 rfl rfl rfl rfl rfl rfl (fun zb14 => ?_)
        refine r_if_eq C eX5_clauseOf_28 (fun c15 => ?_) (fun c15 => ?_)
        · rw [if_pos c15] at hbL8
          refine r_iinc C (v := (s4 + 1)) [(4, .int (s4 + 1)), (0, .ref (a0 o0)), (1, .int p1), (2, .int p2), (3, .int p3)] eX5_clauseOf_34 4 rfl rfl (by decide) rfl ?_
          refine r_goto C eX5_clauseOf_37 ?_
          refine r_sub (lv' := [(0, .ref (a0 o0)), (1, .int p1), (2, .int p2), (3, .int p3), (4, .int (s4 + 1))]) [1, 2, 3, 4, 0] rfl ?_
          have hc := ihL8 (s4 + 1) hbL8
          exact hc
        · rw [if_neg c15] at hbL8
          refine r_iload C eX5_clauseOf_31 4 rfl ?_
          obtain rfl := Option.some.inj (show some (Sum.inl (s4 : Int32)) = some _ from hbL8)
          obtain rfl := Option.some.inj (show some (s4 : Int32) = some _ from hf)
          exact hret _ _ _ eX5_clauseOf_33
  refine r_sub (lv' := [(0, .ref (a0 o0)), (1, .int p1), (2, .int p2), (3, .int p3), (4, .int (zT_FIRST_CLAUSE.getD (ix p1) 0))]) [1, 2, 3, 4, 0] rfl ?_
  have hc := L8 LF (zT_FIRST_CLAUSE.getD (ix p1) 0) h6
  exact hc
theorem eX5_readClause_0 : zd 1 cX5_readClause 0 1 (.aload_n 0) := ⟨by decide +kernel, rfl⟩
theorem eX5_readClause_1 : zd 3 cX5_readClause 1 4 (.getfield 46) := ⟨by decide +kernel, rfl⟩
theorem eX5_readClause_4 : zd 1 cX5_readClause 4 5 (.istore_n 3) := ⟨by decide +kernel, rfl⟩
theorem eX5_readClause_5 : zd 1 cX5_readClause 5 6 (.aload_n 1) := ⟨by decide +kernel, rfl⟩
theorem eX5_readClause_6 : zd 1 cX5_readClause 6 7 (.iload_n 3) := ⟨by decide +kernel, rfl⟩
theorem eX5_readClause_7 : zd 3 cX5_readClause 7 10 (.invokevirtual 67) := ⟨by decide +kernel, rfl⟩
theorem eX5_readClause_10 : zd 2 cX5_readClause 10 12 (.istore 4) := ⟨by decide +kernel, rfl⟩
theorem eX5_readClause_12 : zd 1 cX5_readClause 12 13 (.aload_n 1) := ⟨by decide +kernel, rfl⟩
theorem eX5_readClause_13 : zd 1 cX5_readClause 13 14 (.iload_n 2) := ⟨by decide +kernel, rfl⟩
theorem eX5_readClause_14 : zd 1 cX5_readClause 14 15 (.iload_n 3) := ⟨by decide +kernel, rfl⟩
theorem eX5_readClause_15 : zd 2 cX5_readClause 15 17 (.iload 4) := ⟨by decide +kernel, rfl⟩
theorem eX5_readClause_17 : zd 3 cX5_readClause 17 20 (.invokestatic 70) := ⟨by decide +kernel, rfl⟩
theorem eX5_readClause_20 : zd 2 cX5_readClause 20 22 (.istore 5) := ⟨by decide +kernel, rfl⟩
theorem eX5_readClause_22 : zd 2 cX5_readClause 22 24 (.iload 5) := ⟨by decide +kernel, rfl⟩
theorem eX5_readClause_24 : zd 1 cX5_readClause 24 25 (.iconst (-1)) := ⟨by decide +kernel, rfl⟩
theorem eX5_readClause_25 : zdi cX5_readClause 25 28 35 (.if_icmp .ne) := ⟨10, by decide +kernel, rfl, by decide⟩
theorem eX5_readClause_28 : zd 1 cX5_readClause 28 29 (.aload_n 0) := ⟨by decide +kernel, rfl⟩
theorem eX5_readClause_29 : zd 1 cX5_readClause 29 30 (.iconst 1) := ⟨by decide +kernel, rfl⟩
theorem eX5_readClause_30 : zd 1 cX5_readClause 30 31 (.iload_n 3) := ⟨by decide +kernel, rfl⟩
theorem eX5_readClause_31 : zd 3 cX5_readClause 31 34 (.invokevirtual 74) := ⟨by decide +kernel, rfl⟩
theorem eX5_readClause_34 : zd 1 cX5_readClause 34 35 (.return_) := ⟨by decide +kernel, rfl⟩
theorem eX5_readClause_35 : zd 1 cX5_readClause 35 36 (.aload_n 0) := ⟨by decide +kernel, rfl⟩
theorem eX5_readClause_36 : zd 3 cX5_readClause 36 39 (.getfield 32) := ⟨by decide +kernel, rfl⟩
theorem eX5_readClause_39 : zd 2 cX5_readClause 39 41 (.iload 5) := ⟨by decide +kernel, rfl⟩
theorem eX5_readClause_41 : zd 1 cX5_readClause 41 42 (.iaload) := ⟨by decide +kernel, rfl⟩
theorem eX5_readClause_42 : zd 3 cX5_readClause 42 45 (.getstatic 78) := ⟨by decide +kernel, rfl⟩
theorem eX5_readClause_45 : zd 2 cX5_readClause 45 47 (.iload 5) := ⟨by decide +kernel, rfl⟩
theorem eX5_readClause_47 : zd 1 cX5_readClause 47 48 (.iaload) := ⟨by decide +kernel, rfl⟩
theorem eX5_readClause_48 : zdi cX5_readClause 48 51 58 (.if_icmp .lt) := ⟨10, by decide +kernel, rfl, by decide⟩
theorem eX5_readClause_51 : zd 1 cX5_readClause 51 52 (.aload_n 0) := ⟨by decide +kernel, rfl⟩
theorem eX5_readClause_52 : zd 1 cX5_readClause 52 53 (.iconst 3) := ⟨by decide +kernel, rfl⟩
theorem eX5_readClause_53 : zd 1 cX5_readClause 53 54 (.iload_n 3) := ⟨by decide +kernel, rfl⟩
theorem eX5_readClause_54 : zd 3 cX5_readClause 54 57 (.invokevirtual 74) := ⟨by decide +kernel, rfl⟩
theorem eX5_readClause_57 : zd 1 cX5_readClause 57 58 (.return_) := ⟨by decide +kernel, rfl⟩
theorem eX5_readClause_58 : zd 1 cX5_readClause 58 59 (.aload_n 0) := ⟨by decide +kernel, rfl⟩
theorem eX5_readClause_59 : zd 2 cX5_readClause 59 61 (.iload 4) := ⟨by decide +kernel, rfl⟩
theorem eX5_readClause_61 : zd 3 cX5_readClause 61 64 (.putfield 46) := ⟨by decide +kernel, rfl⟩
theorem eX5_readClause_64 : zd 1 cX5_readClause 64 65 (.iconst 0) := ⟨by decide +kernel, rfl⟩
theorem eX5_readClause_65 : zd 2 cX5_readClause 65 67 (.istore 6) := ⟨by decide +kernel, rfl⟩
theorem eX5_readClause_67 : zd 2 cX5_readClause 67 69 (.iload 6) := ⟨by decide +kernel, rfl⟩
theorem eX5_readClause_69 : zd 3 cX5_readClause 69 72 (.getstatic 81) := ⟨by decide +kernel, rfl⟩
theorem eX5_readClause_72 : zd 2 cX5_readClause 72 74 (.iload 5) := ⟨by decide +kernel, rfl⟩
theorem eX5_readClause_74 : zd 1 cX5_readClause 74 75 (.iaload) := ⟨by decide +kernel, rfl⟩
theorem eX5_readClause_75 : zdi cX5_readClause 75 78 100 (.if_icmp .ge) := ⟨25, by decide +kernel, rfl, by decide⟩
theorem eX5_readClause_78 : zd 1 cX5_readClause 78 79 (.aload_n 0) := ⟨by decide +kernel, rfl⟩
theorem eX5_readClause_79 : zd 3 cX5_readClause 79 82 (.getfield 39) := ⟨by decide +kernel, rfl⟩
theorem eX5_readClause_82 : zdi cX5_readClause 82 85 100 (.ifCond .ne) := ⟨18, by decide +kernel, rfl, by decide⟩
theorem eX5_readClause_85 : zd 1 cX5_readClause 85 86 (.aload_n 0) := ⟨by decide +kernel, rfl⟩
theorem eX5_readClause_86 : zd 1 cX5_readClause 86 87 (.aload_n 1) := ⟨by decide +kernel, rfl⟩
theorem eX5_readClause_87 : zd 2 cX5_readClause 87 89 (.iload 5) := ⟨by decide +kernel, rfl⟩
theorem eX5_readClause_89 : zd 2 cX5_readClause 89 91 (.iload 6) := ⟨by decide +kernel, rfl⟩
theorem eX5_readClause_91 : zd 3 cX5_readClause 91 94 (.invokevirtual 84) := ⟨by decide +kernel, rfl⟩
theorem eX5_readClause_94 : zd 3 cX5_readClause 94 97 (.iinc 6 1) := ⟨by decide +kernel, rfl⟩
theorem eX5_readClause_97 : zdi cX5_readClause 97 100 67 (.goto) := ⟨(-30), by decide +kernel, rfl, by decide⟩
theorem eX5_readClause_100 : zd 1 cX5_readClause 100 101 (.aload_n 0) := ⟨by decide +kernel, rfl⟩
theorem eX5_readClause_101 : zd 3 cX5_readClause 101 104 (.getfield 39) := ⟨by decide +kernel, rfl⟩
theorem eX5_readClause_104 : zdi cX5_readClause 104 107 114 (.ifCond .ne) := ⟨10, by decide +kernel, rfl, by decide⟩
theorem eX5_readClause_107 : zd 1 cX5_readClause 107 108 (.aload_n 0) := ⟨by decide +kernel, rfl⟩
theorem eX5_readClause_108 : zd 1 cX5_readClause 108 109 (.aload_n 1) := ⟨by decide +kernel, rfl⟩
theorem eX5_readClause_109 : zd 2 cX5_readClause 109 111 (.iload 5) := ⟨by decide +kernel, rfl⟩
theorem eX5_readClause_111 : zd 3 cX5_readClause 111 114 (.invokevirtual 88) := ⟨by decide +kernel, rfl⟩
theorem eX5_readClause_114 : zd 1 cX5_readClause 114 115 (.return_) := ⟨by decide +kernel, rfl⟩
theorem FX5_39 : zlF RX5 39 5 3 := ⟨(RX5, TX5, 8), rfl, by decide, q165, zin5⟩
theorem MX5_67 : zlV RX5 67 yX8_behindLetters cX8_behindLetters 3 ((Option.some FieldType.int)) 1 := ⟨q455, q456, q457, q2, q458, by decide, by decide, by decide +kernel⟩
theorem MX5_70 : zlS RX5 70 yX5_clauseOf cX5_clauseOf 5 ((Option.some FieldType.int)) 4 := ⟨q462, q463, q3, q464, by decide, by decide, by decide +kernel⟩
theorem MX5_84 : zlV RX5 84 yX5_readNumber cX5_readNumber 8 (none) 3 := ⟨q543, q545, qs3, q3, q546, by decide, by decide, by decide +kernel⟩
theorem MX5_88 : zlV RX5 88 yX5_readEnd cX5_readEnd 3 (none) 2 := ⟨q575, q577, qs6, q3, q578, by decide, by decide, by decide +kernel⟩
noncomputable def fB_Re_readClause_67 (v0 : tRe) (v1 : tTe) (r2 : Int32) (ih : (Int32 × (Nat → Int32) × (Nat → Int32)) → Option (Int32 × (Nat → Int32) × (Nat → Int32))) (s10 : Int32 × (Nat → Int32) × (Nat → Int32)) : Option (Int32 × (Nat → Int32) × (Nat → Int32)) := (if inb r2 11 = true then (if (zT_NUMBERS_OF.getD (ix r2) 0) ≤ (s10.1) then (some ((s10.1), (s10.2.1), (s10.2.2))) else (if ((s10.2.1) 3) = 0 then (Option.bind (f_Re_readNumber ((s10.2.1), (gRe_quayDraft v0), (gRe_planDraft v0), (gRe_tideDraft v0), (gRe_times v0), (s10.2.2)) v1 r2 (s10.1)) (fun (r20 : (Nat → Int32) × (Nat → Int32)) => (ih (((s10.1) + 1), (r20.1), (r20.2))))) else (some ((s10.1), (s10.2.1), (s10.2.2))))) else none)
noncomputable def f_Re_readClause (v0 : tRe) (v1 : tTe) (p1 : Int32) : Option ((Nat → Int32) × (Nat → Int32) × (Nat → Int32) × (Nat → Int32) × (Nat → Int32) × (Nat → Int32) × (Nat → Int32) × (Nat → Int32) × (Nat → Int32) × (Nat → Int32) × (Nat → Int32) × (Nat → Int32)) := (Option.bind (f_Te_behindLetters v1 ((gRe_ints v0) 7)) (fun (r1 : Int32) => (Option.bind (f_Re_clauseOf v1 p1 ((gRe_ints v0) 7) r1) (fun (r2 : Int32) => (if r2 = (-1) then (zlet (f_Re_fail v0 1 ((gRe_ints v0) 7)) (fun (r4 : (Nat → Int32)) => (some (r4, (gQu_ints (gRe_quayDraft v0)), (gQu_places (gRe_quayDraft v0)), (gQu_strengths (gRe_quayDraft v0)), (gPl_ints (gRe_planDraft v0)), (gPl_seconds (gRe_planDraft v0)), (gPl_engines (gRe_planDraft v0)), (gPl_wheels (gRe_planDraft v0)), (gTi_ints (gRe_tideDraft v0)), (gTi_heights (gRe_tideDraft v0)), (gRe_times v0), (gRe_row v0))))) else (if inb r2 11 = true then (if inb r2 11 = true then (if ((gRe_times v0) (ix r2)) < (zT_TIMES_MOST.getD (ix r2) 0) then (Option.bind (lp (fB_Re_readClause_67 v0 v1 r2) LF (0, (upd (gRe_ints v0) 7 r1), (gRe_row v0))) (fun (q11 : Int32 × (Nat → Int32) × (Nat → Int32)) => (if ((q11.2.1) 3) = 0 then (Option.bind (f_Re_readEnd ((q11.2.1), (gRe_quayDraft v0), (gRe_planDraft v0), (gRe_tideDraft v0), (gRe_times v0), (q11.2.2)) v1 r2) (fun (r22 : (Nat → Int32) × (Nat → Int32) × (Nat → Int32) × (Nat → Int32) × (Nat → Int32) × (Nat → Int32) × (Nat → Int32) × (Nat → Int32) × (Nat → Int32) × (Nat → Int32) × (Nat → Int32)) => (some ((r22.1), (r22.2.1), (r22.2.2.1), (r22.2.2.2.1), (r22.2.2.2.2.1), (r22.2.2.2.2.2.1), (r22.2.2.2.2.2.2.1), (r22.2.2.2.2.2.2.2.1), (r22.2.2.2.2.2.2.2.2.1), (r22.2.2.2.2.2.2.2.2.2.1), (r22.2.2.2.2.2.2.2.2.2.2), (q11.2.2))))) else (some ((q11.2.1), (gQu_ints (gRe_quayDraft v0)), (gQu_places (gRe_quayDraft v0)), (gQu_strengths (gRe_quayDraft v0)), (gPl_ints (gRe_planDraft v0)), (gPl_seconds (gRe_planDraft v0)), (gPl_engines (gRe_planDraft v0)), (gPl_wheels (gRe_planDraft v0)), (gTi_ints (gRe_tideDraft v0)), (gTi_heights (gRe_tideDraft v0)), (gRe_times v0), (q11.2.2)))))) else (zlet (f_Re_fail v0 3 ((gRe_ints v0) 7)) (fun (r23 : (Nat → Int32)) => (some (r23, (gQu_ints (gRe_quayDraft v0)), (gQu_places (gRe_quayDraft v0)), (gQu_strengths (gRe_quayDraft v0)), (gPl_ints (gRe_planDraft v0)), (gPl_seconds (gRe_planDraft v0)), (gPl_engines (gRe_planDraft v0)), (gPl_wheels (gRe_planDraft v0)), (gTi_ints (gRe_tideDraft v0)), (gTi_heights (gRe_tideDraft v0)), (gRe_times v0), (gRe_row v0)))))) else none) else none))))))
abbrev rm_Re_readClause : Room := { frames := 6, cells := 0, slots := 0, locals := 133 }
set_option maxHeartbeats 4000000 in
set_option maxRecDepth 100000 in
theorem c_Re_readClause (l : Launch) (g : zGl) (a0 : Nat → Nat) (o0 : Nat) (v0 : tRe) (a1 : Nat → Nat) (o1 : Nat) (v1 : tTe) (p1 : Int32) (out : (Nat → Int32) × (Nat → Int32) × (Nat → Int32) × (Nat → Int32) × (Nat → Int32) × (Nat → Int32) × (Nat → Int32) × (Nat → Int32) × (Nat → Int32) × (Nat → Int32) × (Nat → Int32) × (Nat → Int32)) (hf : f_Re_readClause v0 v1 p1 = some out) : zMv l yX5_readClause cX5_readClause 7 rm_Re_readClause g [.ref (a0 o0), .ref (a1 o1), .int p1] (W_Re g a0 o0 (gRe_ints v0) (gQu_ints (gRe_quayDraft v0)) (gQu_places (gRe_quayDraft v0)) (gQu_strengths (gRe_quayDraft v0)) (gPl_ints (gRe_planDraft v0)) (gPl_seconds (gRe_planDraft v0)) (gPl_engines (gRe_planDraft v0)) (gPl_wheels (gRe_planDraft v0)) (gTi_ints (gRe_tideDraft v0)) (gTi_heights (gRe_tideDraft v0)) (gRe_times v0) (gRe_row v0) ++ W_Te g a1 o1 (gTe_ints v1) (gTe_bytes v1))  (W_Re g a0 o0 (out.1) (out.2.1) (out.2.2.1) (out.2.2.2.1) (out.2.2.2.2.1) (out.2.2.2.2.2.1) (out.2.2.2.2.2.2.1) (out.2.2.2.2.2.2.2.1) (out.2.2.2.2.2.2.2.2.1) (out.2.2.2.2.2.2.2.2.2.1) (out.2.2.2.2.2.2.2.2.2.2.1) (out.2.2.2.2.2.2.2.2.2.2.2) ++ W_Te g a1 o1 (gTe_ints v1) (gTe_bytes v1)) := by
  refine zMv_of (lv := [(0, .ref (a0 o0)), (1, .ref (a1 o1)), (2, .int p1)]) (by decide) (Nat.le_of_ble_eq_true rfl) rfl (fun x hl hg C hret => ?_)
  subst hl; subst hg
  rw [f_Re_readClause] at hf
  refine r_aload_n C eX5_readClause_0 0 rfl rfl ?_
  refine r_get (v := .int ((gRe_ints v0) 7)) C eX5_readClause_1 FX5_46 0 rfl rfl ?_
  refine r_istore_n C [(3, .int ((gRe_ints v0) 7)), (0, .ref (a0 o0)), (1, .ref (a1 o1)), (2, .int p1)] eX5_readClause_4 rfl (by decide) rfl ?_
  refine r_aload_n C eX5_readClause_5 2 rfl rfl ?_
  refine r_iload_n C eX5_readClause_6 0 rfl rfl ?_
  obtain ⟨r1, hr1, hf⟩ := zbind hf
  refine r_V_i (ws' := W_Re (z_g x) a0 o0 (gRe_ints v0) (gQu_ints (gRe_quayDraft v0)) (gQu_places (gRe_quayDraft v0)) (gQu_strengths (gRe_quayDraft v0)) (gPl_ints (gRe_planDraft v0)) (gPl_seconds (gRe_planDraft v0)) (gPl_engines (gRe_planDraft v0)) (gPl_wheels (gRe_planDraft v0)) (gTi_ints (gRe_tideDraft v0)) (gTi_heights (gRe_tideDraft v0)) (gRe_times v0) (gRe_row v0) ++ W_Te (z_g x) a1 o1 (gTe_ints v1) (gTe_bytes v1)) C (c_Te_behindLetters (z_l x) (z_g x) a1 o1 v1 ((gRe_ints v0) 7) r1 hr1) eX5_readClause_7 MX5_67 ⟨0, 8, _, _, rfl, rfl, rfl⟩ [12, 13] rfl rfl rfl rfl [0, 1, 2, 3, 4, 5, 6, 7, 8, 9, 10, 11] rfl ⟨rfl, rfl, rfl, rfl, rfl, rfl, rfl, rfl, rfl, rfl, rfl, rfl, trivial⟩ 14 rfl rfl rfl rfl rfl rfl ?_
  refine r_istore C [(4, .int r1), (3, .int ((gRe_ints v0) 7)), (0, .ref (a0 o0)), (1, .ref (a1 o1)), (2, .int p1)] eX5_readClause_10 (by decide) rfl ?_
  refine r_aload_n C eX5_readClause_12 3 rfl rfl ?_
  refine r_iload_n C eX5_readClause_13 4 rfl rfl ?_
  refine r_iload_n C eX5_readClause_14 1 rfl rfl ?_
  refine r_iload C eX5_readClause_15 0 rfl ?_
  obtain ⟨r2, hr2, hf⟩ := zbind hf
  refine r_S_i (ws' := W_Re (z_g x) a0 o0 (gRe_ints v0) (gQu_ints (gRe_quayDraft v0)) (gQu_places (gRe_quayDraft v0)) (gQu_strengths (gRe_quayDraft v0)) (gPl_ints (gRe_planDraft v0)) (gPl_seconds (gRe_planDraft v0)) (gPl_engines (gRe_planDraft v0)) (gPl_wheels (gRe_planDraft v0)) (gTi_ints (gRe_tideDraft v0)) (gTi_heights (gRe_tideDraft v0)) (gRe_times v0) (gRe_row v0) ++ W_Te (z_g x) a1 o1 (gTe_ints v1) (gTe_bytes v1)) C (c_Re_clauseOf (z_l x) (z_g x) a1 o1 v1 p1 ((gRe_ints v0) 7) r1 r2 hr2) eX5_readClause_17 MX5_70 [12, 13] rfl rfl rfl rfl [0, 1, 2, 3, 4, 5, 6, 7, 8, 9, 10, 11] rfl ⟨rfl, rfl, rfl, rfl, rfl, rfl, rfl, rfl, rfl, rfl, rfl, rfl, trivial⟩ 14 rfl rfl rfl rfl rfl rfl ?_
  refine r_istore C [(5, .int r2), (4, .int r1), (3, .int ((gRe_ints v0) 7)), (0, .ref (a0 o0)), (1, .ref (a1 o1)), (2, .int p1)] eX5_readClause_20 (by decide) rfl ?_
  refine r_iload C eX5_readClause_22 0 rfl ?_
  refine r_iconst C (v := (-1)) eX5_readClause_24 (by decide) ?_
  refine r_icmp_ne C eX5_readClause_25 (fun c3 => ?_) (fun c3 => ?_)
  · rw [if_neg c3] at hf
    refine r_aload_n C eX5_readClause_35 3 rfl rfl ?_
    refine r_get (v := .ref (a0 (o0 + 1))) C eX5_readClause_36 FX5_32 0 rfl rfl ?_
    refine r_iload C eX5_readClause_39 0 rfl ?_
    obtain ⟨hb5, hf⟩ := zchk hf
    refine r_iald C eX5_readClause_41 1 rfl (inb_in hb5) ((gRe_times v0) (ix r2)) rfl ?_
    refine r_stab C (f := zT_TIMES_MOST) eX5_readClause_42 (List.mem_of_getElem? (i := 4) rfl) q539 (fun tt6 hT7 => ?_)
    refine r_iload C eX5_readClause_45 0 rfl ?_
    obtain ⟨hb8, hf⟩ := zchk hf
    refine r_tld C hT7 eX5_readClause_47 (inb_in hb8) ?_
    refine r_icmp_lt C eX5_readClause_48 (fun c9 => ?_) (fun c9 => ?_)
    · rw [if_pos c9] at hf
      refine r_aload_n C eX5_readClause_58 3 rfl rfl ?_
      refine r_iload C eX5_readClause_59 1 rfl ?_
      refine r_put (ws' := W_Re (z_g x) a0 o0 (upd (gRe_ints v0) 7 r1) (gQu_ints (gRe_quayDraft v0)) (gQu_places (gRe_quayDraft v0)) (gQu_strengths (gRe_quayDraft v0)) (gPl_ints (gRe_planDraft v0)) (gPl_seconds (gRe_planDraft v0)) (gPl_engines (gRe_planDraft v0)) (gPl_wheels (gRe_planDraft v0)) (gTi_ints (gRe_tideDraft v0)) (gTi_heights (gRe_tideDraft v0)) (gRe_times v0) (gRe_row v0) ++ W_Te (z_g x) a1 o1 (gTe_ints v1) (gTe_bytes v1)) C eX5_readClause_61 PX5_46 0 rfl rfl rfl (Nat.le_of_ble_eq_true rfl) rfl ?_
      refine r_iconst C (v := 0) eX5_readClause_64 (by decide) ?_
      refine r_istore C [(6, .int 0), (5, .int r2), (4, .int r1), (3, .int ((gRe_ints v0) 7)), (0, .ref (a0 o0)), (1, .ref (a1 o1)), (2, .int p1)] eX5_readClause_65 (by decide) rfl ?_
      obtain ⟨q11, h12, hf⟩ := zbind hf
      have J13 : vV x 7 0 0 (W_Re (z_g x) a0 o0 (q11.2.1) (gQu_ints (gRe_quayDraft v0)) (gQu_places (gRe_quayDraft v0)) (gQu_strengths (gRe_quayDraft v0)) (gPl_ints (gRe_planDraft v0)) (gPl_seconds (gRe_planDraft v0)) (gPl_engines (gRe_planDraft v0)) (gPl_wheels (gRe_planDraft v0)) (gTi_ints (gRe_tideDraft v0)) (gTi_heights (gRe_tideDraft v0)) (gRe_times v0) (q11.2.2) ++ W_Te (z_g x) a1 o1 (gTe_ints v1) (gTe_bytes v1)) 100 [(0, .ref (a0 o0)), (1, .ref (a1 o1)), (5, .int r2)] [] := by
        refine r_aload_n C eX5_readClause_100 0 rfl rfl ?_
        refine r_get (v := .int ((q11.2.1) 3)) C eX5_readClause_101 FX5_39 0 rfl rfl ?_
        refine r_if_ne C eX5_readClause_104 (fun c21 => ?_) (fun c21 => ?_)
        · rw [if_neg c21] at hf
          obtain rfl := Option.some.inj (show some (((q11.2.1), (gQu_ints (gRe_quayDraft v0)), (gQu_places (gRe_quayDraft v0)), (gQu_strengths (gRe_quayDraft v0)), (gPl_ints (gRe_planDraft v0)), (gPl_seconds (gRe_planDraft v0)), (gPl_engines (gRe_planDraft v0)), (gPl_wheels (gRe_planDraft v0)), (gTi_ints (gRe_tideDraft v0)), (gTi_heights (gRe_tideDraft v0)), (gRe_times v0), (q11.2.2)) : (Nat → Int32) × (Nat → Int32) × (Nat → Int32) × (Nat → Int32) × (Nat → Int32) × (Nat → Int32) × (Nat → Int32) × (Nat → Int32) × (Nat → Int32) × (Nat → Int32) × (Nat → Int32) × (Nat → Int32)) = some _ from hf)
          exact hret _ _ _ eX5_readClause_114
        · rw [if_pos c21] at hf
          refine r_aload_n C eX5_readClause_107 0 rfl rfl ?_
          refine r_aload_n C eX5_readClause_108 1 rfl rfl ?_
          refine r_iload C eX5_readClause_109 2 rfl ?_
          obtain ⟨r22, hr22, hf⟩ := zbind hf
          refine r_V_v (ws' := W_Re (z_g x) a0 o0 (r22.1) (r22.2.1) (r22.2.2.1) (r22.2.2.2.1) (r22.2.2.2.2.1) (r22.2.2.2.2.2.1) (r22.2.2.2.2.2.2.1) (r22.2.2.2.2.2.2.2.1) (r22.2.2.2.2.2.2.2.2.1) (r22.2.2.2.2.2.2.2.2.2.1) (r22.2.2.2.2.2.2.2.2.2.2) (q11.2.2) ++ W_Te (z_g x) a1 o1 (gTe_ints v1) (gTe_bytes v1)) C (c_Re_readEnd (z_l x) (z_g x) a0 o0 ((q11.2.1), (gRe_quayDraft v0), (gRe_planDraft v0), (gRe_tideDraft v0), (gRe_times v0), (q11.2.2)) a1 o1 v1 r2 r22 hr22) eX5_readClause_111 MX5_88 ⟨0, 5, _, _, rfl, rfl, rfl⟩ [0, 1, 2, 3, 4, 5, 6, 7, 8, 9, 10, 11, 12, 13] rfl rfl rfl rfl [] rfl trivial 14 rfl rfl rfl rfl rfl rfl ?_
          obtain rfl := Option.some.inj (show some (((r22.1), (r22.2.1), (r22.2.2.1), (r22.2.2.2.1), (r22.2.2.2.2.1), (r22.2.2.2.2.2.1), (r22.2.2.2.2.2.2.1), (r22.2.2.2.2.2.2.2.1), (r22.2.2.2.2.2.2.2.2.1), (r22.2.2.2.2.2.2.2.2.2.1), (r22.2.2.2.2.2.2.2.2.2.2), (q11.2.2)) : (Nat → Int32) × (Nat → Int32) × (Nat → Int32) × (Nat → Int32) × (Nat → Int32) × (Nat → Int32) × (Nat → Int32) × (Nat → Int32) × (Nat → Int32) × (Nat → Int32) × (Nat → Int32) × (Nat → Int32)) = some _ from hf)
          exact hret _ _ _ eX5_readClause_114
      have L14 : ∀ (nL14 : Nat) (s10 : Int32 × (Nat → Int32) × (Nat → Int32)), lp (fB_Re_readClause_67 v0 v1 r2) nL14 s10 = some q11 → vV x 7 0 0 (W_Re (z_g x) a0 o0 (s10.2.1) (gQu_ints (gRe_quayDraft v0)) (gQu_places (gRe_quayDraft v0)) (gQu_strengths (gRe_quayDraft v0)) (gPl_ints (gRe_planDraft v0)) (gPl_seconds (gRe_planDraft v0)) (gPl_engines (gRe_planDraft v0)) (gPl_wheels (gRe_planDraft v0)) (gTi_ints (gRe_tideDraft v0)) (gTi_heights (gRe_tideDraft v0)) (gRe_times v0) (s10.2.2) ++ W_Te (z_g x) a1 o1 (gTe_ints v1) (gTe_bytes v1)) 67 [(0, .ref (a0 o0)), (1, .ref (a1 o1)), (5, .int r2), (6, .int (s10.1))] [] := by
        intro nL14
        induction nL14 with
        | zero => intro s10 hq; cases hq
        | succ nL14 ihL14 =>
          intro s10 hbL14
          rw [lp_succ, fB_Re_readClause_67] at hbL14
          refine r_iload C eX5_readClause_67 3 rfl ?_
          refine r_stab C (f := zT_NUMBERS_OF) eX5_readClause_69 (List.mem_of_getElem? (i := 3) rfl) q541 (fun tt15 hT16 => ?_)
          refine r_iload C eX5_readClause_72 2 rfl ?_
          obtain ⟨hb17, hbL14⟩ := zchk hbL14
          refine r_tld C hT16 eX5_readClause_74 (inb_in hb17) ?_
          refine r_icmp_ge C eX5_readClause_75 (fun c18 => ?_) (fun c18 => ?_)
          · rw [if_pos c18] at hbL14
            obtain rfl := Option.some.inj hbL14
            refine r_sub (lv' := [(0, .ref (a0 o0)), (1, .ref (a1 o1)), (5, .int r2)]) [0, 1, 2] rfl ?_
            exact J13
          · rw [if_neg c18] at hbL14
            refine r_aload_n C eX5_readClause_78 0 rfl rfl ?_
            refine r_get (v := .int ((s10.2.1) 3)) C eX5_readClause_79 FX5_39 0 rfl rfl ?_
            refine r_if_ne C eX5_readClause_82 (fun c19 => ?_) (fun c19 => ?_)
            · rw [if_neg c19] at hbL14
              obtain rfl := Option.some.inj hbL14
              refine r_sub (lv' := [(0, .ref (a0 o0)), (1, .ref (a1 o1)), (5, .int r2)]) [0, 1, 2] rfl ?_
              exact J13
            · rw [if_pos c19] at hbL14
              refine r_aload_n C eX5_readClause_85 0 rfl rfl ?_
              refine r_aload_n C eX5_readClause_86 1 rfl rfl ?_
              refine r_iload C eX5_readClause_87 2 rfl ?_
              refine r_iload C eX5_readClause_89 3 rfl ?_
              obtain ⟨r20, hr20, hbL14⟩ := zbind hbL14
              refine r_V_v (ws' := W_Re (z_g x) a0 o0 (r20.1) (gQu_ints (gRe_quayDraft v0)) (gQu_places (gRe_quayDraft v0)) (gQu_strengths (gRe_quayDraft v0)) (gPl_ints (gRe_planDraft v0)) (gPl_seconds (gRe_planDraft v0)) (gPl_engines (gRe_planDraft v0)) (gPl_wheels (gRe_planDraft v0)) (gTi_ints (gRe_tideDraft v0)) (gTi_heights (gRe_tideDraft v0)) (gRe_times v0) (r20.2) ++ W_Te (z_g x) a1 o1 (gTe_ints v1) (gTe_bytes v1)) C (c_Re_readNumber (z_l x) (z_g x) a0 o0 ((s10.2.1), (gRe_quayDraft v0), (gRe_planDraft v0), (gRe_tideDraft v0), (gRe_times v0), (s10.2.2)) a1 o1 v1 r2 (s10.1) r20 hr20) eX5_readClause_91 MX5_84 ⟨0, 5, _, _, rfl, rfl, rfl⟩ [0, 1, 2, 3, 4, 5, 6, 7, 8, 9, 10, 11, 12, 13] rfl rfl rfl rfl [] rfl trivial 14 rfl rfl rfl rfl rfl rfl ?_
              refine r_iinc C (v := ((s10.1) + 1)) [(6, .int ((s10.1) + 1)), (0, .ref (a0 o0)), (1, .ref (a1 o1)), (5, .int r2)] eX5_readClause_94 3 rfl rfl (by decide) rfl ?_
              refine r_goto C eX5_readClause_97 ?_
              refine r_sub (lv' := [(0, .ref (a0 o0)), (1, .ref (a1 o1)), (5, .int r2), (6, .int ((s10.1) + 1))]) [1, 2, 3, 0] rfl ?_
              have hc := ihL14 (((s10.1) + 1), (r20.1), (r20.2)) hbL14
              exact hc
      refine r_sub (lv' := [(0, .ref (a0 o0)), (1, .ref (a1 o1)), (5, .int r2), (6, .int 0)]) [4, 5, 1, 0] rfl ?_
      have hc := L14 LF (0, (upd (gRe_ints v0) 7 r1), (gRe_row v0)) h12
      exact hc
    · rw [if_neg c9] at hf
      refine r_aload_n C eX5_readClause_51 3 rfl rfl ?_
      refine r_iconst C (v := 3) eX5_readClause_52 (by decide) ?_
      refine r_iload_n C eX5_readClause_53 2 rfl rfl ?_
      obtain ⟨r23, hr23, hf⟩ := zlet_of hf
      refine r_V_v (ws' := W_Re (z_g x) a0 o0 r23 (gQu_ints (gRe_quayDraft v0)) (gQu_places (gRe_quayDraft v0)) (gQu_strengths (gRe_quayDraft v0)) (gPl_ints (gRe_planDraft v0)) (gPl_seconds (gRe_planDraft v0)) (gPl_engines (gRe_planDraft v0)) (gPl_wheels (gRe_planDraft v0)) (gTi_ints (gRe_tideDraft v0)) (gTi_heights (gRe_tideDraft v0)) (gRe_times v0) (gRe_row v0) ++ W_Te (z_g x) a1 o1 (gTe_ints v1) (gTe_bytes v1)) C (c_Re_fail (z_l x) (z_g x) a0 o0 v0 3 ((gRe_ints v0) 7) r23 hr23) eX5_readClause_54 MX5_74 ⟨0, 5, _, _, rfl, rfl, rfl⟩ [0, 1, 2, 3, 4, 5, 6, 7, 8, 9, 10, 11] rfl rfl rfl rfl [12, 13] rfl ⟨rfl, rfl, trivial⟩ 14 rfl rfl rfl rfl rfl rfl ?_
      obtain rfl := Option.some.inj (show some ((r23, (gQu_ints (gRe_quayDraft v0)), (gQu_places (gRe_quayDraft v0)), (gQu_strengths (gRe_quayDraft v0)), (gPl_ints (gRe_planDraft v0)), (gPl_seconds (gRe_planDraft v0)), (gPl_engines (gRe_planDraft v0)), (gPl_wheels (gRe_planDraft v0)), (gTi_ints (gRe_tideDraft v0)), (gTi_heights (gRe_tideDraft v0)), (gRe_times v0), (gRe_row v0)) : (Nat → Int32) × (Nat → Int32) × (Nat → Int32) × (Nat → Int32) × (Nat → Int32) × (Nat → Int32) × (Nat → Int32) × (Nat → Int32) × (Nat → Int32) × (Nat → Int32) × (Nat → Int32) × (Nat → Int32)) = some _ from hf)
      exact hret _ _ _ eX5_readClause_57
  · rw [if_pos c3] at hf
    refine r_aload_n C eX5_readClause_28 3 rfl rfl ?_
    refine r_iconst C (v := 1) eX5_readClause_29 (by decide) ?_
    refine r_iload_n C eX5_readClause_30 2 rfl rfl ?_
    obtain ⟨r4, hr4, hf⟩ := zlet_of hf
    refine r_V_v (ws' := W_Re (z_g x) a0 o0 r4 (gQu_ints (gRe_quayDraft v0)) (gQu_places (gRe_quayDraft v0)) (gQu_strengths (gRe_quayDraft v0)) (gPl_ints (gRe_planDraft v0)) (gPl_seconds (gRe_planDraft v0)) (gPl_engines (gRe_planDraft v0)) (gPl_wheels (gRe_planDraft v0)) (gTi_ints (gRe_tideDraft v0)) (gTi_heights (gRe_tideDraft v0)) (gRe_times v0) (gRe_row v0) ++ W_Te (z_g x) a1 o1 (gTe_ints v1) (gTe_bytes v1)) C (c_Re_fail (z_l x) (z_g x) a0 o0 v0 1 ((gRe_ints v0) 7) r4 hr4) eX5_readClause_31 MX5_74 ⟨0, 5, _, _, rfl, rfl, rfl⟩ [0, 1, 2, 3, 4, 5, 6, 7, 8, 9, 10, 11] rfl rfl rfl rfl [12, 13] rfl ⟨rfl, rfl, trivial⟩ 14 rfl rfl rfl rfl rfl rfl ?_
    obtain rfl := Option.some.inj (show some ((r4, (gQu_ints (gRe_quayDraft v0)), (gQu_places (gRe_quayDraft v0)), (gQu_strengths (gRe_quayDraft v0)), (gPl_ints (gRe_planDraft v0)), (gPl_seconds (gRe_planDraft v0)), (gPl_engines (gRe_planDraft v0)), (gPl_wheels (gRe_planDraft v0)), (gTi_ints (gRe_tideDraft v0)), (gTi_heights (gRe_tideDraft v0)), (gRe_times v0), (gRe_row v0)) : (Nat → Int32) × (Nat → Int32) × (Nat → Int32) × (Nat → Int32) × (Nat → Int32) × (Nat → Int32) × (Nat → Int32) × (Nat → Int32) × (Nat → Int32) × (Nat → Int32) × (Nat → Int32) × (Nat → Int32)) = some _ from hf)
    exact hret _ _ _ eX5_readClause_34
theorem eX5_read_0 : zd 1 cX5_read 0 1 (.aload_n 0) := ⟨by decide +kernel, rfl⟩
theorem eX5_read_1 : zd 1 cX5_read 1 2 (.iconst 0) := ⟨by decide +kernel, rfl⟩
theorem eX5_read_2 : zd 3 cX5_read 2 5 (.putfield 39) := ⟨by decide +kernel, rfl⟩
theorem eX5_read_5 : zd 1 cX5_read 5 6 (.aload_n 0) := ⟨by decide +kernel, rfl⟩
theorem eX5_read_6 : zd 1 cX5_read 6 7 (.iconst (-1)) := ⟨by decide +kernel, rfl⟩
theorem eX5_read_7 : zd 3 cX5_read 7 10 (.putfield 43) := ⟨by decide +kernel, rfl⟩
theorem eX5_read_10 : zd 1 cX5_read 10 11 (.aload_n 0) := ⟨by decide +kernel, rfl⟩
theorem eX5_read_11 : zd 1 cX5_read 11 12 (.iconst 0) := ⟨by decide +kernel, rfl⟩
theorem eX5_read_12 : zd 3 cX5_read 12 15 (.putfield 46) := ⟨by decide +kernel, rfl⟩
theorem eX5_read_15 : zd 1 cX5_read 15 16 (.iconst 0) := ⟨by decide +kernel, rfl⟩
theorem eX5_read_16 : zd 1 cX5_read 16 17 (.istore_n 3) := ⟨by decide +kernel, rfl⟩
theorem eX5_read_17 : zd 1 cX5_read 17 18 (.iload_n 3) := ⟨by decide +kernel, rfl⟩
theorem eX5_read_18 : zd 2 cX5_read 18 20 (.bipush 11) := ⟨by decide +kernel, rfl⟩
theorem eX5_read_20 : zdi cX5_read 20 23 36 (.if_icmp .ge) := ⟨16, by decide +kernel, rfl, by decide⟩
theorem eX5_read_23 : zd 1 cX5_read 23 24 (.aload_n 0) := ⟨by decide +kernel, rfl⟩
theorem eX5_read_24 : zd 3 cX5_read 24 27 (.getfield 32) := ⟨by decide +kernel, rfl⟩
theorem eX5_read_27 : zd 1 cX5_read 27 28 (.iload_n 3) := ⟨by decide +kernel, rfl⟩
theorem eX5_read_28 : zd 1 cX5_read 28 29 (.iconst 0) := ⟨by decide +kernel, rfl⟩
theorem eX5_read_29 : zd 1 cX5_read 29 30 (.iastore) := ⟨by decide +kernel, rfl⟩
theorem eX5_read_30 : zd 3 cX5_read 30 33 (.iinc 3 1) := ⟨by decide +kernel, rfl⟩
theorem eX5_read_33 : zdi cX5_read 33 36 17 (.goto) := ⟨(-16), by decide +kernel, rfl, by decide⟩
theorem eX5_read_36 : zd 1 cX5_read 36 37 (.aload_n 0) := ⟨by decide +kernel, rfl⟩
theorem eX5_read_37 : zd 3 cX5_read 37 40 (.getfield 12) := ⟨by decide +kernel, rfl⟩
theorem eX5_read_40 : zd 3 cX5_read 40 43 (.invokevirtual 49) := ⟨by decide +kernel, rfl⟩
theorem eX5_read_43 : zd 1 cX5_read 43 44 (.aload_n 0) := ⟨by decide +kernel, rfl⟩
theorem eX5_read_44 : zd 3 cX5_read 44 47 (.getfield 21) := ⟨by decide +kernel, rfl⟩
theorem eX5_read_47 : zd 1 cX5_read 47 48 (.iconst 0) := ⟨by decide +kernel, rfl⟩
theorem eX5_read_48 : zd 3 cX5_read 48 51 (.putfield 52) := ⟨by decide +kernel, rfl⟩
theorem eX5_read_51 : zd 1 cX5_read 51 52 (.aload_n 0) := ⟨by decide +kernel, rfl⟩
theorem eX5_read_52 : zd 3 cX5_read 52 55 (.getfield 28) := ⟨by decide +kernel, rfl⟩
theorem eX5_read_55 : zd 1 cX5_read 55 56 (.iconst 0) := ⟨by decide +kernel, rfl⟩
theorem eX5_read_56 : zd 3 cX5_read 56 59 (.putfield 55) := ⟨by decide +kernel, rfl⟩
theorem eX5_read_59 : zd 1 cX5_read 59 60 (.iconst 0) := ⟨by decide +kernel, rfl⟩
theorem eX5_read_60 : zd 1 cX5_read 60 61 (.istore_n 3) := ⟨by decide +kernel, rfl⟩
theorem eX5_read_61 : zd 1 cX5_read 61 62 (.iload_n 3) := ⟨by decide +kernel, rfl⟩
theorem eX5_read_62 : zd 3 cX5_read 62 65 (.sipush 300) := ⟨by decide +kernel, rfl⟩
theorem eX5_read_65 : zdi cX5_read 65 68 113 (.if_icmp .gt) := ⟨48, by decide +kernel, rfl, by decide⟩
theorem eX5_read_68 : zd 1 cX5_read 68 69 (.aload_n 0) := ⟨by decide +kernel, rfl⟩
theorem eX5_read_69 : zd 3 cX5_read 69 72 (.getfield 39) := ⟨by decide +kernel, rfl⟩
theorem eX5_read_72 : zdi cX5_read 72 75 113 (.ifCond .ne) := ⟨41, by decide +kernel, rfl, by decide⟩
theorem eX5_read_75 : zd 1 cX5_read 75 76 (.aload_n 0) := ⟨by decide +kernel, rfl⟩
theorem eX5_read_76 : zd 1 cX5_read 76 77 (.aload_n 1) := ⟨by decide +kernel, rfl⟩
theorem eX5_read_77 : zd 1 cX5_read 77 78 (.aload_n 0) := ⟨by decide +kernel, rfl⟩
theorem eX5_read_78 : zd 3 cX5_read 78 81 (.getfield 46) := ⟨by decide +kernel, rfl⟩
theorem eX5_read_81 : zd 3 cX5_read 81 84 (.invokevirtual 58) := ⟨by decide +kernel, rfl⟩
theorem eX5_read_84 : zd 3 cX5_read 84 87 (.putfield 46) := ⟨by decide +kernel, rfl⟩
theorem eX5_read_87 : zd 1 cX5_read 87 88 (.aload_n 0) := ⟨by decide +kernel, rfl⟩
theorem eX5_read_88 : zd 3 cX5_read 88 91 (.getfield 46) := ⟨by decide +kernel, rfl⟩
theorem eX5_read_91 : zd 1 cX5_read 91 92 (.aload_n 1) := ⟨by decide +kernel, rfl⟩
theorem eX5_read_92 : zd 3 cX5_read 92 95 (.getfield 62) := ⟨by decide +kernel, rfl⟩
theorem eX5_read_95 : zdi cX5_read 95 98 101 (.if_icmp .lt) := ⟨6, by decide +kernel, rfl, by decide⟩
theorem eX5_read_98 : zdi cX5_read 98 101 113 (.goto) := ⟨15, by decide +kernel, rfl, by decide⟩
theorem eX5_read_101 : zd 1 cX5_read 101 102 (.aload_n 0) := ⟨by decide +kernel, rfl⟩
theorem eX5_read_102 : zd 1 cX5_read 102 103 (.aload_n 1) := ⟨by decide +kernel, rfl⟩
theorem eX5_read_103 : zd 1 cX5_read 103 104 (.iload_n 2) := ⟨by decide +kernel, rfl⟩
theorem eX5_read_104 : zd 3 cX5_read 104 107 (.invokevirtual 63) := ⟨by decide +kernel, rfl⟩
theorem eX5_read_107 : zd 3 cX5_read 107 110 (.iinc 3 1) := ⟨by decide +kernel, rfl⟩
theorem eX5_read_110 : zdi cX5_read 110 113 61 (.goto) := ⟨(-49), by decide +kernel, rfl, by decide⟩
theorem eX5_read_113 : zd 1 cX5_read 113 114 (.return_) := ⟨by decide +kernel, rfl⟩
theorem FX5_62 : zlF RX5 62 8 1 := ⟨(RX8, TX8, 2), rfl, by decide, q36, zin8⟩
theorem PX5_52 : zlP RX5 52 3 0 .int := ⟨(RX3, TX3, 4), tyX3, rfl, by decide, q129, zin3, tyX3_ok, nmX3, rfl, by decide +kernel⟩
theorem PX5_55 : zlP RX5 55 9 0 .int := ⟨(RX9, TX9, 2), tyX9, rfl, by decide, q150, zin9, tyX9_ok, nmX9, rfl, by decide +kernel⟩
theorem MX5_49 : zlV RX5 49 yX4_becomeUntold cX4_becomeUntold 2 (none) 0 := ⟨q442, q353, q354, q4, q355, by decide, by decide, by decide +kernel⟩
theorem MX5_63 : zlV RX5 63 yX5_readClause cX5_readClause 7 (none) 2 := ⟨q451, q453, qs1, q3, q454, by decide, by decide, by decide +kernel⟩
noncomputable def fB_Re_read_17  (ih : (Int32 × (Nat → Int32)) → Option (Int32 × (Nat → Int32))) (s1 : Int32 × (Nat → Int32)) : Option (Int32 × (Nat → Int32)) := (if 11 ≤ (s1.1) then (some ((s1.1), (s1.2))) else (if inb (s1.1) 11 = true then (ih (((s1.1) + 1), (upd (s1.2) (ix (s1.1)) 0))) else none))
noncomputable def fB_Re_read_61 (v1 : tTe) (p1 : Int32) (ih : (Int32 × (Nat → Int32) × (Nat → Int32) × (Nat → Int32) × (Nat → Int32) × (Nat → Int32) × (Nat → Int32) × (Nat → Int32) × (Nat → Int32) × (Nat → Int32) × (Nat → Int32) × (Nat → Int32) × (Nat → Int32)) → Option (Int32 × (Nat → Int32) × (Nat → Int32) × (Nat → Int32) × (Nat → Int32) × (Nat → Int32) × (Nat → Int32) × (Nat → Int32) × (Nat → Int32) × (Nat → Int32) × (Nat → Int32) × (Nat → Int32) × (Nat → Int32))) (s9 : Int32 × (Nat → Int32) × (Nat → Int32) × (Nat → Int32) × (Nat → Int32) × (Nat → Int32) × (Nat → Int32) × (Nat → Int32) × (Nat → Int32) × (Nat → Int32) × (Nat → Int32) × (Nat → Int32) × (Nat → Int32)) : Option (Int32 × (Nat → Int32) × (Nat → Int32) × (Nat → Int32) × (Nat → Int32) × (Nat → Int32) × (Nat → Int32) × (Nat → Int32) × (Nat → Int32) × (Nat → Int32) × (Nat → Int32) × (Nat → Int32) × (Nat → Int32)) := (if 300 < (s9.1) then (some ((s9.1), (s9.2.1), (s9.2.2.1), (s9.2.2.2.1), (s9.2.2.2.2.1), (s9.2.2.2.2.2.1), (s9.2.2.2.2.2.2.1), (s9.2.2.2.2.2.2.2.1), (s9.2.2.2.2.2.2.2.2.1), (s9.2.2.2.2.2.2.2.2.2.1), (s9.2.2.2.2.2.2.2.2.2.2.1), (s9.2.2.2.2.2.2.2.2.2.2.2.1), (s9.2.2.2.2.2.2.2.2.2.2.2.2))) else (if ((s9.2.1) 3) = 0 then (Option.bind (f_Te_behindBlanks v1 ((s9.2.1) 7)) (fun (r16 : Int32) => (if r16 < ((gTe_ints v1) 1) then (Option.bind (f_Re_readClause ((upd (s9.2.1) 7 r16), ((s9.2.2.1), (s9.2.2.2.1), (s9.2.2.2.2.1)), ((s9.2.2.2.2.2.1), (s9.2.2.2.2.2.2.1), (s9.2.2.2.2.2.2.2.1), (s9.2.2.2.2.2.2.2.2.1)), ((s9.2.2.2.2.2.2.2.2.2.1), (s9.2.2.2.2.2.2.2.2.2.2.1)), (s9.2.2.2.2.2.2.2.2.2.2.2.1), (s9.2.2.2.2.2.2.2.2.2.2.2.2)) v1 p1) (fun (r18 : (Nat → Int32) × (Nat → Int32) × (Nat → Int32) × (Nat → Int32) × (Nat → Int32) × (Nat → Int32) × (Nat → Int32) × (Nat → Int32) × (Nat → Int32) × (Nat → Int32) × (Nat → Int32) × (Nat → Int32)) => (ih (((s9.1) + 1), (r18.1), (r18.2.1), (r18.2.2.1), (r18.2.2.2.1), (r18.2.2.2.2.1), (r18.2.2.2.2.2.1), (r18.2.2.2.2.2.2.1), (r18.2.2.2.2.2.2.2.1), (r18.2.2.2.2.2.2.2.2.1), (r18.2.2.2.2.2.2.2.2.2.1), (r18.2.2.2.2.2.2.2.2.2.2.1), (r18.2.2.2.2.2.2.2.2.2.2.2))))) else (some ((s9.1), (upd (s9.2.1) 7 r16), (s9.2.2.1), (s9.2.2.2.1), (s9.2.2.2.2.1), (s9.2.2.2.2.2.1), (s9.2.2.2.2.2.2.1), (s9.2.2.2.2.2.2.2.1), (s9.2.2.2.2.2.2.2.2.1), (s9.2.2.2.2.2.2.2.2.2.1), (s9.2.2.2.2.2.2.2.2.2.2.1), (s9.2.2.2.2.2.2.2.2.2.2.2.1), (s9.2.2.2.2.2.2.2.2.2.2.2.2)))))) else (some ((s9.1), (s9.2.1), (s9.2.2.1), (s9.2.2.2.1), (s9.2.2.2.2.1), (s9.2.2.2.2.2.1), (s9.2.2.2.2.2.2.1), (s9.2.2.2.2.2.2.2.1), (s9.2.2.2.2.2.2.2.2.1), (s9.2.2.2.2.2.2.2.2.2.1), (s9.2.2.2.2.2.2.2.2.2.2.1), (s9.2.2.2.2.2.2.2.2.2.2.2.1), (s9.2.2.2.2.2.2.2.2.2.2.2.2)))))
noncomputable def f_Re_read (v0 : tRe) (v1 : tTe) (p1 : Int32) : Option ((Nat → Int32) × (Nat → Int32) × (Nat → Int32) × (Nat → Int32) × (Nat → Int32) × (Nat → Int32) × (Nat → Int32) × (Nat → Int32) × (Nat → Int32) × (Nat → Int32) × (Nat → Int32) × (Nat → Int32)) := (Option.bind (lp (fB_Re_read_17) LF (0, (gRe_times v0))) (fun (q2 : Int32 × (Nat → Int32)) => (Option.bind (f_Qu_becomeUntold (gRe_quayDraft v0)) (fun (r8 : (Nat → Int32)) => (Option.bind (lp (fB_Re_read_61 v1 p1) LF (0, (upd (upd (upd (gRe_ints v0) 3 0) 4 (-1)) 7 0), r8, (gQu_places (gRe_quayDraft v0)), (gQu_strengths (gRe_quayDraft v0)), (upd (gPl_ints (gRe_planDraft v0)) 0 0), (gPl_seconds (gRe_planDraft v0)), (gPl_engines (gRe_planDraft v0)), (gPl_wheels (gRe_planDraft v0)), (upd (gTi_ints (gRe_tideDraft v0)) 0 0), (gTi_heights (gRe_tideDraft v0)), (q2.2), (gRe_row v0))) (fun (q10 : Int32 × (Nat → Int32) × (Nat → Int32) × (Nat → Int32) × (Nat → Int32) × (Nat → Int32) × (Nat → Int32) × (Nat → Int32) × (Nat → Int32) × (Nat → Int32) × (Nat → Int32) × (Nat → Int32) × (Nat → Int32)) => (some ((q10.2.1), (q10.2.2.1), (q10.2.2.2.1), (q10.2.2.2.2.1), (q10.2.2.2.2.2.1), (q10.2.2.2.2.2.2.1), (q10.2.2.2.2.2.2.2.1), (q10.2.2.2.2.2.2.2.2.1), (q10.2.2.2.2.2.2.2.2.2.1), (q10.2.2.2.2.2.2.2.2.2.2.1), (q10.2.2.2.2.2.2.2.2.2.2.2.1), (q10.2.2.2.2.2.2.2.2.2.2.2.2)))))))))
abbrev rm_Re_read : Room := { frames := 7, cells := 0, slots := 0, locals := 159 }
set_option maxHeartbeats 4000000 in
set_option maxRecDepth 100000 in
theorem c_Re_read (l : Launch) (g : zGl) (a0 : Nat → Nat) (o0 : Nat) (v0 : tRe) (a1 : Nat → Nat) (o1 : Nat) (v1 : tTe) (p1 : Int32) (out : (Nat → Int32) × (Nat → Int32) × (Nat → Int32) × (Nat → Int32) × (Nat → Int32) × (Nat → Int32) × (Nat → Int32) × (Nat → Int32) × (Nat → Int32) × (Nat → Int32) × (Nat → Int32) × (Nat → Int32)) (hf : f_Re_read v0 v1 p1 = some out) : zMv l yX5_read cX5_read 4 rm_Re_read g [.ref (a0 o0), .ref (a1 o1), .int p1] (W_Re g a0 o0 (gRe_ints v0) (gQu_ints (gRe_quayDraft v0)) (gQu_places (gRe_quayDraft v0)) (gQu_strengths (gRe_quayDraft v0)) (gPl_ints (gRe_planDraft v0)) (gPl_seconds (gRe_planDraft v0)) (gPl_engines (gRe_planDraft v0)) (gPl_wheels (gRe_planDraft v0)) (gTi_ints (gRe_tideDraft v0)) (gTi_heights (gRe_tideDraft v0)) (gRe_times v0) (gRe_row v0) ++ W_Te g a1 o1 (gTe_ints v1) (gTe_bytes v1))  (W_Re g a0 o0 (out.1) (out.2.1) (out.2.2.1) (out.2.2.2.1) (out.2.2.2.2.1) (out.2.2.2.2.2.1) (out.2.2.2.2.2.2.1) (out.2.2.2.2.2.2.2.1) (out.2.2.2.2.2.2.2.2.1) (out.2.2.2.2.2.2.2.2.2.1) (out.2.2.2.2.2.2.2.2.2.2.1) (out.2.2.2.2.2.2.2.2.2.2.2) ++ W_Te g a1 o1 (gTe_ints v1) (gTe_bytes v1)) := by
  refine zMv_of (lv := [(0, .ref (a0 o0)), (1, .ref (a1 o1)), (2, .int p1)]) (by decide) (Nat.le_of_ble_eq_true rfl) rfl (fun x hl hg C hret => ?_)
  subst hl; subst hg
  rw [f_Re_read] at hf
  refine r_aload_n C eX5_read_0 0 rfl rfl ?_
  refine r_iconst C (v := 0) eX5_read_1 (by decide) ?_
  refine r_put (ws' := W_Re (z_g x) a0 o0 (upd (gRe_ints v0) 3 0) (gQu_ints (gRe_quayDraft v0)) (gQu_places (gRe_quayDraft v0)) (gQu_strengths (gRe_quayDraft v0)) (gPl_ints (gRe_planDraft v0)) (gPl_seconds (gRe_planDraft v0)) (gPl_engines (gRe_planDraft v0)) (gPl_wheels (gRe_planDraft v0)) (gTi_ints (gRe_tideDraft v0)) (gTi_heights (gRe_tideDraft v0)) (gRe_times v0) (gRe_row v0) ++ W_Te (z_g x) a1 o1 (gTe_ints v1) (gTe_bytes v1)) C eX5_read_2 PX5_39 0 rfl rfl rfl (Nat.le_of_ble_eq_true rfl) rfl ?_
  refine r_aload_n C eX5_read_5 0 rfl rfl ?_
  refine r_iconst C (v := (-1)) eX5_read_6 (by decide) ?_
  refine r_put (ws' := W_Re (z_g x) a0 o0 (upd (upd (gRe_ints v0) 3 0) 4 (-1)) (gQu_ints (gRe_quayDraft v0)) (gQu_places (gRe_quayDraft v0)) (gQu_strengths (gRe_quayDraft v0)) (gPl_ints (gRe_planDraft v0)) (gPl_seconds (gRe_planDraft v0)) (gPl_engines (gRe_planDraft v0)) (gPl_wheels (gRe_planDraft v0)) (gTi_ints (gRe_tideDraft v0)) (gTi_heights (gRe_tideDraft v0)) (gRe_times v0) (gRe_row v0) ++ W_Te (z_g x) a1 o1 (gTe_ints v1) (gTe_bytes v1)) C eX5_read_7 PX5_43 0 rfl rfl rfl (Nat.le_of_ble_eq_true rfl) rfl ?_
  refine r_aload_n C eX5_read_10 0 rfl rfl ?_
  refine r_iconst C (v := 0) eX5_read_11 (by decide) ?_
  refine r_put (ws' := W_Re (z_g x) a0 o0 (upd (upd (upd (gRe_ints v0) 3 0) 4 (-1)) 7 0) (gQu_ints (gRe_quayDraft v0)) (gQu_places (gRe_quayDraft v0)) (gQu_strengths (gRe_quayDraft v0)) (gPl_ints (gRe_planDraft v0)) (gPl_seconds (gRe_planDraft v0)) (gPl_engines (gRe_planDraft v0)) (gPl_wheels (gRe_planDraft v0)) (gTi_ints (gRe_tideDraft v0)) (gTi_heights (gRe_tideDraft v0)) (gRe_times v0) (gRe_row v0) ++ W_Te (z_g x) a1 o1 (gTe_ints v1) (gTe_bytes v1)) C eX5_read_12 PX5_46 0 rfl rfl rfl (Nat.le_of_ble_eq_true rfl) rfl ?_
  refine r_iconst C (v := 0) eX5_read_15 (by decide) ?_
  refine r_istore_n C [(3, .int 0), (0, .ref (a0 o0)), (1, .ref (a1 o1)), (2, .int p1)] eX5_read_16 rfl (by decide) rfl ?_
  obtain ⟨q2, h3, hf⟩ := zbind hf
  have J4 : vV x 4 0 0 (W_Re (z_g x) a0 o0 (upd (upd (upd (gRe_ints v0) 3 0) 4 (-1)) 7 0) (gQu_ints (gRe_quayDraft v0)) (gQu_places (gRe_quayDraft v0)) (gQu_strengths (gRe_quayDraft v0)) (gPl_ints (gRe_planDraft v0)) (gPl_seconds (gRe_planDraft v0)) (gPl_engines (gRe_planDraft v0)) (gPl_wheels (gRe_planDraft v0)) (gTi_ints (gRe_tideDraft v0)) (gTi_heights (gRe_tideDraft v0)) (q2.2) (gRe_row v0) ++ W_Te (z_g x) a1 o1 (gTe_ints v1) (gTe_bytes v1)) 36 [(0, .ref (a0 o0)), (1, .ref (a1 o1)), (2, .int p1)] [] := by
    refine r_aload_n C eX5_read_36 0 rfl rfl ?_
    refine r_get (v := .ref (a0 (o0 + 3))) C eX5_read_37 FX5_12 0 rfl rfl ?_
    obtain ⟨r8, hr8, hf⟩ := zbind hf
    refine r_V_v (ws' := W_Re (z_g x) a0 o0 (upd (upd (upd (gRe_ints v0) 3 0) 4 (-1)) 7 0) r8 (gQu_places (gRe_quayDraft v0)) (gQu_strengths (gRe_quayDraft v0)) (gPl_ints (gRe_planDraft v0)) (gPl_seconds (gRe_planDraft v0)) (gPl_engines (gRe_planDraft v0)) (gPl_wheels (gRe_planDraft v0)) (gTi_ints (gRe_tideDraft v0)) (gTi_heights (gRe_tideDraft v0)) (q2.2) (gRe_row v0) ++ W_Te (z_g x) a1 o1 (gTe_ints v1) (gTe_bytes v1)) C (c_Qu_becomeUntold (z_l x) (z_g x) a0 (o0 + 3) (gRe_quayDraft v0)  r8 hr8) eX5_read_40 MX5_49 ⟨0, 4, _, _, rfl, rfl, rfl⟩ [3, 4, 5] rfl rfl rfl rfl [0, 1, 2, 6, 7, 8, 9, 10, 11, 12, 13] rfl ⟨rfl, rfl, rfl, rfl, rfl, rfl, rfl, rfl, rfl, rfl, rfl, trivial⟩ 14 rfl rfl rfl rfl rfl rfl ?_
    refine r_aload_n C eX5_read_43 0 rfl rfl ?_
    refine r_get (v := .ref (a0 (o0 + 6))) C eX5_read_44 FX5_21 0 rfl rfl ?_
    refine r_iconst C (v := 0) eX5_read_47 (by decide) ?_
    refine r_put (ws' := W_Re (z_g x) a0 o0 (upd (upd (upd (gRe_ints v0) 3 0) 4 (-1)) 7 0) r8 (gQu_places (gRe_quayDraft v0)) (gQu_strengths (gRe_quayDraft v0)) (upd (gPl_ints (gRe_planDraft v0)) 0 0) (gPl_seconds (gRe_planDraft v0)) (gPl_engines (gRe_planDraft v0)) (gPl_wheels (gRe_planDraft v0)) (gTi_ints (gRe_tideDraft v0)) (gTi_heights (gRe_tideDraft v0)) (q2.2) (gRe_row v0) ++ W_Te (z_g x) a1 o1 (gTe_ints v1) (gTe_bytes v1)) C eX5_read_48 PX5_52 6 rfl rfl rfl (Nat.le_of_ble_eq_true rfl) rfl ?_
    refine r_aload_n C eX5_read_51 0 rfl rfl ?_
    refine r_get (v := .ref (a0 (o0 + 10))) C eX5_read_52 FX5_28 0 rfl rfl ?_
    refine r_iconst C (v := 0) eX5_read_55 (by decide) ?_
    refine r_put (ws' := W_Re (z_g x) a0 o0 (upd (upd (upd (gRe_ints v0) 3 0) 4 (-1)) 7 0) r8 (gQu_places (gRe_quayDraft v0)) (gQu_strengths (gRe_quayDraft v0)) (upd (gPl_ints (gRe_planDraft v0)) 0 0) (gPl_seconds (gRe_planDraft v0)) (gPl_engines (gRe_planDraft v0)) (gPl_wheels (gRe_planDraft v0)) (upd (gTi_ints (gRe_tideDraft v0)) 0 0) (gTi_heights (gRe_tideDraft v0)) (q2.2) (gRe_row v0) ++ W_Te (z_g x) a1 o1 (gTe_ints v1) (gTe_bytes v1)) C eX5_read_56 PX5_55 10 rfl rfl rfl (Nat.le_of_ble_eq_true rfl) rfl ?_
    refine r_iconst C (v := 0) eX5_read_59 (by decide) ?_
    refine r_istore_n C [(3, .int 0), (0, .ref (a0 o0)), (1, .ref (a1 o1)), (2, .int p1)] eX5_read_60 rfl (by decide) rfl ?_
    obtain ⟨q10, h11, hf⟩ := zbind hf
    have J12 : vV x 4 0 0 (W_Re (z_g x) a0 o0 (q10.2.1) (q10.2.2.1) (q10.2.2.2.1) (q10.2.2.2.2.1) (q10.2.2.2.2.2.1) (q10.2.2.2.2.2.2.1) (q10.2.2.2.2.2.2.2.1) (q10.2.2.2.2.2.2.2.2.1) (q10.2.2.2.2.2.2.2.2.2.1) (q10.2.2.2.2.2.2.2.2.2.2.1) (q10.2.2.2.2.2.2.2.2.2.2.2.1) (q10.2.2.2.2.2.2.2.2.2.2.2.2) ++ W_Te (z_g x) a1 o1 (gTe_ints v1) (gTe_bytes v1)) 113 [] [] := by
      obtain rfl := Option.some.inj (show some (((q10.2.1), (q10.2.2.1), (q10.2.2.2.1), (q10.2.2.2.2.1), (q10.2.2.2.2.2.1), (q10.2.2.2.2.2.2.1), (q10.2.2.2.2.2.2.2.1), (q10.2.2.2.2.2.2.2.2.1), (q10.2.2.2.2.2.2.2.2.2.1), (q10.2.2.2.2.2.2.2.2.2.2.1), (q10.2.2.2.2.2.2.2.2.2.2.2.1), (q10.2.2.2.2.2.2.2.2.2.2.2.2)) : (Nat → Int32) × (Nat → Int32) × (Nat → Int32) × (Nat → Int32) × (Nat → Int32) × (Nat → Int32) × (Nat → Int32) × (Nat → Int32) × (Nat → Int32) × (Nat → Int32) × (Nat → Int32) × (Nat → Int32)) = some _ from hf)
      exact hret _ _ _ eX5_read_113
    have L13 : ∀ (nL13 : Nat) (s9 : Int32 × (Nat → Int32) × (Nat → Int32) × (Nat → Int32) × (Nat → Int32) × (Nat → Int32) × (Nat → Int32) × (Nat → Int32) × (Nat → Int32) × (Nat → Int32) × (Nat → Int32) × (Nat → Int32) × (Nat → Int32)), lp (fB_Re_read_61 v1 p1) nL13 s9 = some q10 → vV x 4 0 0 (W_Re (z_g x) a0 o0 (s9.2.1) (s9.2.2.1) (s9.2.2.2.1) (s9.2.2.2.2.1) (s9.2.2.2.2.2.1) (s9.2.2.2.2.2.2.1) (s9.2.2.2.2.2.2.2.1) (s9.2.2.2.2.2.2.2.2.1) (s9.2.2.2.2.2.2.2.2.2.1) (s9.2.2.2.2.2.2.2.2.2.2.1) (s9.2.2.2.2.2.2.2.2.2.2.2.1) (s9.2.2.2.2.2.2.2.2.2.2.2.2) ++ W_Te (z_g x) a1 o1 (gTe_ints v1) (gTe_bytes v1)) 61 [(0, .ref (a0 o0)), (1, .ref (a1 o1)), (2, .int p1), (3, .int (s9.1))] [] := by
      intro nL13
      induction nL13 with
      | zero => intro s9 hq; cases hq
      | succ nL13 ihL13 =>
        intro s9 hbL13
        rw [lp_succ, fB_Re_read_61] at hbL13
        refine r_iload_n C eX5_read_61 3 rfl rfl ?_
        refine r_sipush C (v := 300) eX5_read_62 (by decide) ?_
        refine r_icmp_gt C eX5_read_65 (fun c14 => ?_) (fun c14 => ?_)
        · rw [if_pos c14] at hbL13
          obtain rfl := Option.some.inj hbL13
          refine r_sub (lv' := []) [] rfl ?_
          exact J12
        · rw [if_neg c14] at hbL13
          refine r_aload_n C eX5_read_68 0 rfl rfl ?_
          refine r_get (v := .int ((s9.2.1) 3)) C eX5_read_69 FX5_39 0 rfl rfl ?_
          refine r_if_ne C eX5_read_72 (fun c15 => ?_) (fun c15 => ?_)
          · rw [if_neg c15] at hbL13
            obtain rfl := Option.some.inj hbL13
            refine r_sub (lv' := []) [] rfl ?_
            exact J12
          · rw [if_pos c15] at hbL13
            refine r_aload_n C eX5_read_75 0 rfl rfl ?_
            refine r_aload_n C eX5_read_76 1 rfl rfl ?_
            refine r_aload_n C eX5_read_77 0 rfl rfl ?_
            refine r_get (v := .int ((s9.2.1) 7)) C eX5_read_78 FX5_46 0 rfl rfl ?_
            obtain ⟨r16, hr16, hbL13⟩ := zbind hbL13
            refine r_V_i (ws' := W_Re (z_g x) a0 o0 (s9.2.1) (s9.2.2.1) (s9.2.2.2.1) (s9.2.2.2.2.1) (s9.2.2.2.2.2.1) (s9.2.2.2.2.2.2.1) (s9.2.2.2.2.2.2.2.1) (s9.2.2.2.2.2.2.2.2.1) (s9.2.2.2.2.2.2.2.2.2.1) (s9.2.2.2.2.2.2.2.2.2.2.1) (s9.2.2.2.2.2.2.2.2.2.2.2.1) (s9.2.2.2.2.2.2.2.2.2.2.2.2) ++ W_Te (z_g x) a1 o1 (gTe_ints v1) (gTe_bytes v1)) C (c_Te_behindBlanks (z_l x) (z_g x) a1 o1 v1 ((s9.2.1) 7) r16 hr16) eX5_read_81 MX5_58 ⟨0, 8, _, _, rfl, rfl, rfl⟩ [12, 13] rfl rfl rfl rfl [0, 1, 2, 3, 4, 5, 6, 7, 8, 9, 10, 11] rfl ⟨rfl, rfl, rfl, rfl, rfl, rfl, rfl, rfl, rfl, rfl, rfl, rfl, trivial⟩ 14 rfl rfl rfl rfl rfl rfl ?_
            refine r_put (ws' := W_Re (z_g x) a0 o0 (upd (s9.2.1) 7 r16) (s9.2.2.1) (s9.2.2.2.1) (s9.2.2.2.2.1) (s9.2.2.2.2.2.1) (s9.2.2.2.2.2.2.1) (s9.2.2.2.2.2.2.2.1) (s9.2.2.2.2.2.2.2.2.1) (s9.2.2.2.2.2.2.2.2.2.1) (s9.2.2.2.2.2.2.2.2.2.2.1) (s9.2.2.2.2.2.2.2.2.2.2.2.1) (s9.2.2.2.2.2.2.2.2.2.2.2.2) ++ W_Te (z_g x) a1 o1 (gTe_ints v1) (gTe_bytes v1)) C eX5_read_84 PX5_46 0 rfl rfl rfl (Nat.le_of_ble_eq_true rfl) rfl ?_
            refine r_aload_n C eX5_read_87 0 rfl rfl ?_
            refine r_get (v := .int r16) C eX5_read_88 FX5_46 0 rfl rfl ?_
            refine r_aload_n C eX5_read_91 1 rfl rfl ?_
            refine r_get (v := .int ((gTe_ints v1) 1)) C eX5_read_92 FX5_62 12 rfl rfl ?_
            refine r_icmp_lt C eX5_read_95 (fun c17 => ?_) (fun c17 => ?_)
            · rw [if_pos c17] at hbL13
              refine r_aload_n C eX5_read_101 0 rfl rfl ?_
              refine r_aload_n C eX5_read_102 1 rfl rfl ?_
              refine r_iload_n C eX5_read_103 2 rfl rfl ?_
              obtain ⟨r18, hr18, hbL13⟩ := zbind hbL13
              refine r_V_v (ws' := W_Re (z_g x) a0 o0 (r18.1) (r18.2.1) (r18.2.2.1) (r18.2.2.2.1) (r18.2.2.2.2.1) (r18.2.2.2.2.2.1) (r18.2.2.2.2.2.2.1) (r18.2.2.2.2.2.2.2.1) (r18.2.2.2.2.2.2.2.2.1) (r18.2.2.2.2.2.2.2.2.2.1) (r18.2.2.2.2.2.2.2.2.2.2.1) (r18.2.2.2.2.2.2.2.2.2.2.2) ++ W_Te (z_g x) a1 o1 (gTe_ints v1) (gTe_bytes v1)) C (c_Re_readClause (z_l x) (z_g x) a0 o0 ((upd (s9.2.1) 7 r16), ((s9.2.2.1), (s9.2.2.2.1), (s9.2.2.2.2.1)), ((s9.2.2.2.2.2.1), (s9.2.2.2.2.2.2.1), (s9.2.2.2.2.2.2.2.1), (s9.2.2.2.2.2.2.2.2.1)), ((s9.2.2.2.2.2.2.2.2.2.1), (s9.2.2.2.2.2.2.2.2.2.2.1)), (s9.2.2.2.2.2.2.2.2.2.2.2.1), (s9.2.2.2.2.2.2.2.2.2.2.2.2)) a1 o1 v1 p1 r18 hr18) eX5_read_104 MX5_63 ⟨0, 5, _, _, rfl, rfl, rfl⟩ [0, 1, 2, 3, 4, 5, 6, 7, 8, 9, 10, 11, 12, 13] rfl rfl rfl rfl [] rfl trivial 14 rfl rfl rfl rfl rfl rfl ?_
              refine r_iinc C (v := ((s9.1) + 1)) [(3, .int ((s9.1) + 1)), (0, .ref (a0 o0)), (1, .ref (a1 o1)), (2, .int p1)] eX5_read_107 3 rfl rfl (by decide) rfl ?_
              refine r_goto C eX5_read_110 ?_
              refine r_sub (lv' := [(0, .ref (a0 o0)), (1, .ref (a1 o1)), (2, .int p1), (3, .int ((s9.1) + 1))]) [1, 2, 3, 0] rfl ?_
              have hc := ihL13 (((s9.1) + 1), (r18.1), (r18.2.1), (r18.2.2.1), (r18.2.2.2.1), (r18.2.2.2.2.1), (r18.2.2.2.2.2.1), (r18.2.2.2.2.2.2.1), (r18.2.2.2.2.2.2.2.1), (r18.2.2.2.2.2.2.2.2.1), (r18.2.2.2.2.2.2.2.2.2.1), (r18.2.2.2.2.2.2.2.2.2.2.1), (r18.2.2.2.2.2.2.2.2.2.2.2)) hbL13
              exact hc
            · rw [if_neg c17] at hbL13
              refine r_goto C eX5_read_98 ?_
              obtain rfl := Option.some.inj hbL13
              refine r_sub (lv' := []) [] rfl ?_
              exact J12
    refine r_sub (lv' := [(0, .ref (a0 o0)), (1, .ref (a1 o1)), (2, .int p1), (3, .int 0)]) [1, 2, 3, 0] rfl ?_
    have hc := L13 LF (0, (upd (upd (upd (gRe_ints v0) 3 0) 4 (-1)) 7 0), r8, (gQu_places (gRe_quayDraft v0)), (gQu_strengths (gRe_quayDraft v0)), (upd (gPl_ints (gRe_planDraft v0)) 0 0), (gPl_seconds (gRe_planDraft v0)), (gPl_engines (gRe_planDraft v0)), (gPl_wheels (gRe_planDraft v0)), (upd (gTi_ints (gRe_tideDraft v0)) 0 0), (gTi_heights (gRe_tideDraft v0)), (q2.2), (gRe_row v0)) h11
    exact hc
  have L5 : ∀ (nL5 : Nat) (s1 : Int32 × (Nat → Int32)), lp (fB_Re_read_17) nL5 s1 = some q2 → vV x 4 0 0 (W_Re (z_g x) a0 o0 (upd (upd (upd (gRe_ints v0) 3 0) 4 (-1)) 7 0) (gQu_ints (gRe_quayDraft v0)) (gQu_places (gRe_quayDraft v0)) (gQu_strengths (gRe_quayDraft v0)) (gPl_ints (gRe_planDraft v0)) (gPl_seconds (gRe_planDraft v0)) (gPl_engines (gRe_planDraft v0)) (gPl_wheels (gRe_planDraft v0)) (gTi_ints (gRe_tideDraft v0)) (gTi_heights (gRe_tideDraft v0)) (s1.2) (gRe_row v0) ++ W_Te (z_g x) a1 o1 (gTe_ints v1) (gTe_bytes v1)) 17 [(0, .ref (a0 o0)), (1, .ref (a1 o1)), (2, .int p1), (3, .int (s1.1))] [] := by
    intro nL5
    induction nL5 with
    | zero => intro s1 hq; cases hq
    | succ nL5 ihL5 =>
      intro s1 hbL5
      rw [lp_succ, fB_Re_read_17] at hbL5
      refine r_iload_n C eX5_read_17 3 rfl rfl ?_
      refine r_bipush C (v := 11) eX5_read_18 (by decide) ?_
      refine r_icmp_ge C eX5_read_20 (fun c6 => ?_) (fun c6 => ?_)
      · rw [if_pos c6] at hbL5
        obtain rfl := Option.some.inj hbL5
        refine r_sub (lv' := [(0, .ref (a0 o0)), (1, .ref (a1 o1)), (2, .int p1)]) [0, 1, 2] rfl ?_
        exact J4
      · rw [if_neg c6] at hbL5
        refine r_aload_n C eX5_read_23 0 rfl rfl ?_
        refine r_get (v := .ref (a0 (o0 + 1))) C eX5_read_24 FX5_32 0 rfl rfl ?_
        refine r_iload_n C eX5_read_27 3 rfl rfl ?_
        refine r_iconst C (v := 0) eX5_read_28 (by decide) ?_
        obtain ⟨hb7, hbL5⟩ := zchk hbL5
        refine r_iast (ws' := W_Re (z_g x) a0 o0 (upd (upd (upd (gRe_ints v0) 3 0) 4 (-1)) 7 0) (gQu_ints (gRe_quayDraft v0)) (gQu_places (gRe_quayDraft v0)) (gQu_strengths (gRe_quayDraft v0)) (gPl_ints (gRe_planDraft v0)) (gPl_seconds (gRe_planDraft v0)) (gPl_engines (gRe_planDraft v0)) (gPl_wheels (gRe_planDraft v0)) (gTi_ints (gRe_tideDraft v0)) (gTi_heights (gRe_tideDraft v0)) (upd (s1.2) (ix (s1.1)) 0) (gRe_row v0) ++ W_Te (z_g x) a1 o1 (gTe_ints v1) (gTe_bytes v1)) C eX5_read_29 1 rfl (inb_in hb7) rfl ?_
        refine r_iinc C (v := ((s1.1) + 1)) [(3, .int ((s1.1) + 1)), (0, .ref (a0 o0)), (1, .ref (a1 o1)), (2, .int p1)] eX5_read_30 3 rfl rfl (by decide) rfl ?_
        refine r_goto C eX5_read_33 ?_
        refine r_sub (lv' := [(0, .ref (a0 o0)), (1, .ref (a1 o1)), (2, .int p1), (3, .int ((s1.1) + 1))]) [1, 2, 3, 0] rfl ?_
        have hc := ihL5 (((s1.1) + 1), (upd (s1.2) (ix (s1.1)) 0)) hbL5
        exact hc
  refine r_sub (lv' := [(0, .ref (a0 o0)), (1, .ref (a1 o1)), (2, .int p1), (3, .int 0)]) [1, 2, 3, 0] rfl ?_
  have hc := L5 LF (0, (gRe_times v0)) h3
  exact hc
