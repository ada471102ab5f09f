/-! THE LAW: its loop -/
set_option maxHeartbeats 4000000 in
set_option maxRecDepth 100000 in
theorem law_sw {x : zFx} (C : zC x code RL 4 room_1) {b L : Nat} {xs : Nat → Int32} (X : lwX x b L xs) {a a' : Nat → Nat} {v : tAL} {m : tMo} {n : Nat} {i z : Int32} (hi : i.toInt = ((5 * n : Nat) : Int)) (hL : 5 * n + 5 ≤ L) (h : Rel n v m) (go : ∀ v' m', Rel (n + 1) v' m' → vV x 4 93 1926 (wA (z_g x) a v' ++ wM (z_g x) a' m') 1098 [(3, .int i), (2, .ref (a' 0)), (1, .ref (a 0)), (0, .ref b)] []) : vV x 4 93 1926 (wA (z_g x) a v ++ wM (z_g x) a' m) 32 [(3, .int i), (2, .ref (a' 0)), (1, .ref (a 0)), (0, .ref b)] [.int z] := by
  by_cases h0 : z = 0
  · exact r_tabIn C eL_32 h0 152 184 ⟨⟨by decide, by decide⟩, rfl, by decide⟩ (lc_0 C X hi hL h go)
  by_cases h1 : z = 1
  · exact r_tabIn C eL_32 h1 215 247 ⟨⟨by decide, by decide⟩, rfl, by decide⟩ (lc_1 C X hi hL h go)
  by_cases h2 : z = 2
  · exact r_tabIn C eL_32 h2 228 260 ⟨⟨by decide, by decide⟩, rfl, by decide⟩ (lc_2 C X hi hL h go)
  by_cases h3 : z = 3
  · exact r_tabIn C eL_32 h3 241 273 ⟨⟨by decide, by decide⟩, rfl, by decide⟩ (lc_3 C X hi hL h go)
  by_cases h4 : z = 4
  · exact r_tabIn C eL_32 h4 254 286 ⟨⟨by decide, by decide⟩, rfl, by decide⟩ (lc_4 C X hi hL h go)
  by_cases h5 : z = 5
  · exact r_tabIn C eL_32 h5 267 299 ⟨⟨by decide, by decide⟩, rfl, by decide⟩ (lc_5 C X hi hL h go)
  by_cases h6 : z = 6
  · exact r_tabIn C eL_32 h6 290 322 ⟨⟨by decide, by decide⟩, rfl, by decide⟩ (lc_6 C X hi hL h go)
  by_cases h7 : z = 7
  · exact r_tabIn C eL_32 h7 323 355 ⟨⟨by decide, by decide⟩, rfl, by decide⟩ (lc_7 C X hi hL h go)
  by_cases h8 : z = 8
  · exact r_tabIn C eL_32 h8 356 388 ⟨⟨by decide, by decide⟩, rfl, by decide⟩ (lc_8 C X hi hL h go)
  by_cases h9 : z = 9
  · exact r_tabIn C eL_32 h9 380 412 ⟨⟨by decide, by decide⟩, rfl, by decide⟩ (lc_9 C X hi hL h go)
  by_cases h10 : z = 10
  · exact r_tabIn C eL_32 h10 403 435 ⟨⟨by decide, by decide⟩, rfl, by decide⟩ (lc_10 C X hi hL h go)
  by_cases h11 : z = 11
  · exact r_tabIn C eL_32 h11 426 458 ⟨⟨by decide, by decide⟩, rfl, by decide⟩ (lc_11 C X hi hL h go)
  by_cases h12 : z = 12
  · exact r_tabIn C eL_32 h12 479 511 ⟨⟨by decide, by decide⟩, rfl, by decide⟩ (lc_12 C X hi hL h go)
  by_cases h13 : z = 13
  · exact r_tabIn C eL_32 h13 522 554 ⟨⟨by decide, by decide⟩, rfl, by decide⟩ (lc_13 C X hi hL h go)
  by_cases h14 : z = 14
  · exact r_tabIn C eL_32 h14 555 587 ⟨⟨by decide, by decide⟩, rfl, by decide⟩ (lc_14 C X hi hL h go)
  by_cases h15 : z = 15
  · exact r_tabIn C eL_32 h15 588 620 ⟨⟨by decide, by decide⟩, rfl, by decide⟩ (lc_15 C X hi hL h go)
  by_cases h16 : z = 16
  · exact r_tabIn C eL_32 h16 611 643 ⟨⟨by decide, by decide⟩, rfl, by decide⟩ (lc_16 C X hi hL h go)
  by_cases h17 : z = 17
  · exact r_tabIn C eL_32 h17 644 676 ⟨⟨by decide, by decide⟩, rfl, by decide⟩ (lc_17 C X hi hL h go)
  by_cases h18 : z = 18
  · exact r_tabIn C eL_32 h18 677 709 ⟨⟨by decide, by decide⟩, rfl, by decide⟩ (lc_18 C X hi hL h go)
  by_cases h19 : z = 19
  · exact r_tabIn C eL_32 h19 711 743 ⟨⟨by decide, by decide⟩, rfl, by decide⟩ (lc_19 C X hi hL h go)
  by_cases h20 : z = 20
  · exact r_tabIn C eL_32 h20 724 756 ⟨⟨by decide, by decide⟩, rfl, by decide⟩ (lc_20 C X hi hL h go)
  by_cases h21 : z = 21
  · exact r_tabIn C eL_32 h21 737 769 ⟨⟨by decide, by decide⟩, rfl, by decide⟩ (lc_21 C X hi hL h go)
  by_cases h22 : z = 22
  · exact r_tabIn C eL_32 h22 760 792 ⟨⟨by decide, by decide⟩, rfl, by decide⟩ (lc_22 C X hi hL h go)
  by_cases h23 : z = 23
  · exact r_tabIn C eL_32 h23 783 815 ⟨⟨by decide, by decide⟩, rfl, by decide⟩ (lc_23 C X hi hL h go)
  by_cases h24 : z = 24
  · exact r_tabIn C eL_32 h24 806 838 ⟨⟨by decide, by decide⟩, rfl, by decide⟩ (lc_24 C X hi hL h go)
  by_cases h25 : z = 25
  · exact r_tabIn C eL_32 h25 849 881 ⟨⟨by decide, by decide⟩, rfl, by decide⟩ (lc_25 C X hi hL h go)
  by_cases h26 : z = 26
  · exact r_tabIn C eL_32 h26 892 924 ⟨⟨by decide, by decide⟩, rfl, by decide⟩ (lc_26 C X hi hL h go)
  by_cases h27 : z = 27
  · exact r_tabIn C eL_32 h27 915 947 ⟨⟨by decide, by decide⟩, rfl, by decide⟩ (lc_27 C X hi hL h go)
  by_cases h28 : z = 28
  · exact r_tabIn C eL_32 h28 938 970 ⟨⟨by decide, by decide⟩, rfl, by decide⟩ (lc_28 C X hi hL h go)
  by_cases h29 : z = 29
  · exact r_tabIn C eL_32 h29 961 993 ⟨⟨by decide, by decide⟩, rfl, by decide⟩ (lc_29 C X hi hL h go)
  by_cases h30 : z = 30
  · exact r_tabIn C eL_32 h30 974 1006 ⟨⟨by decide, by decide⟩, rfl, by decide⟩ (lc_30 C X hi hL h go)
  by_cases h31 : z = 31
  · exact r_tabIn C eL_32 h31 997 1029 ⟨⟨by decide, by decide⟩, rfl, by decide⟩ (lc_31 C X hi hL h go)
  by_cases h32 : z = 32
  · exact r_tabIn C eL_32 h32 1020 1052 ⟨⟨by decide, by decide⟩, rfl, by decide⟩ (lc_32 C X hi hL h go)
  by_cases h33 : z = 33
  · exact r_tabIn C eL_32 h33 1043 1075 ⟨⟨by decide, by decide⟩, rfl, by decide⟩ (lc_33 C X hi hL h go)
  refine r_tabOut C eL_32 (fun j j1 j2 => ?_) 1098 (by decide) (go v m h.next)
  have e : j = 0 ∨ j = 1 ∨ j = 2 ∨ j = 3 ∨ j = 4 ∨ j = 5 ∨ j = 6 ∨ j = 7 ∨ j = 8 ∨ j = 9 ∨ j = 10 ∨ j = 11 ∨ j = 12 ∨ j = 13 ∨ j = 14 ∨ j = 15 ∨ j = 16 ∨ j = 17 ∨ j = 18 ∨ j = 19 ∨ j = 20 ∨ j = 21 ∨ j = 22 ∨ j = 23 ∨ j = 24 ∨ j = 25 ∨ j = 26 ∨ j = 27 ∨ j = 28 ∨ j = 29 ∨ j = 30 ∨ j = 31 ∨ j = 32 ∨ j = 33 := by omega
  rcases e with rfl | rfl | rfl | rfl | rfl | rfl | rfl | rfl | rfl | rfl | rfl | rfl | rfl | rfl | rfl | rfl | rfl | rfl | rfl | rfl | rfl | rfl | rfl | rfl | rfl | rfl | rfl | rfl | rfl | rfl | rfl | rfl | rfl | rfl
  · exact h0
  · exact h1
  · exact h2
  · exact h3
  · exact h4
  · exact h5
  · exact h6
  · exact h7
  · exact h8
  · exact h9
  · exact h10
  · exact h11
  · exact h12
  · exact h13
  · exact h14
  · exact h15
  · exact h16
  · exact h17
  · exact h18
  · exact h19
  · exact h20
  · exact h21
  · exact h22
  · exact h23
  · exact h24
  · exact h25
  · exact h26
  · exact h27
  · exact h28
  · exact h29
  · exact h30
  · exact h31
  · exact h32
  · exact h33
set_option maxHeartbeats 4000000 in
set_option maxRecDepth 100000 in
theorem law_loop {x : zFx} (C : zC x code RL 4 room_1) {b L : Nat} {xs : Nat → Int32} (X : lwX x b L xs) (hend : ∀ (ws : va_W) (lv : List (Nat × Value)), vV x 4 93 1926 ws 1105 lv [.int 1]) (a a' : Nat → Nat) : ∀ (k n : Nat) (v : tAL) (m : tMo) (i : Int32), L + 5 ≤ 5 * n + k → 5 * n ≤ L → i.toInt = ((5 * n : Nat) : Int) → Rel n v m → vV x 4 93 1926 (wA (z_g x) a v ++ wM (z_g x) a' m) 18 [(3, .int i), (2, .ref (a' 0)), (1, .ref (a 0)), (0, .ref b)] [] := by
  intro k
  induction k with
  | zero => intro n v m i h1 h2; omega
  | succ k ih =>
    intro n v m i h1 h2 hi h
    have hb := X.2.2.2
    refine r_iload_n C eL_18 0 rfl rfl ?_
    refine r_aload_n C eL_19 3 rfl rfl ?_
    refine lw_slen C X eL_20 ?_
    refine r_iconst C (v := 5) eL_21 (by decide) ?_
    refine r_isub C eL_22 ?_
    have eL : (Int32.ofNat L - 5).toInt = (L : Int) - 5 := by
      have h0 : (Int32.ofNat L).toInt = (L : Int) := Int32.toInt_ofNat_of_lt (by omega)
      rw [((rp.of 3000 h0 (by omega) (by omega)).sub (rp.lit 5 5 (a := 5) rfl rfl) (by decide)).1]
    refine r_icmp_gt C eL_23 (fun _ => ?_) (fun c => ?_)
    · refine r_iconst C (v := 1) eL_1104 (by decide) ?_
      exact hend _ _
    · rw [Int32.lt_iff_toInt_lt, eL, hi] at c
      refine r_aload_n C eL_26 3 rfl rfl ?_
      refine r_iload_n C eL_27 0 rfl rfl ?_
      refine lw_sld C X (k := 5 * n) eL_28 hi (by omega) ?_
      refine r_bipush C (v := 63) eL_29 (by decide) ?_
      refine r_iand C eL_31 ?_
      refine law_sw C X hi (by omega) h (fun v' m' h' => ?_)
      refine r_iinc C [(3, .int (i + 5)), (2, .ref (a' 0)), (1, .ref (a 0)), (0, .ref b)] eL_1098 0 rfl rfl (by decide) rfl ?_
      refine r_goto C eL_1101 ?_
      exact ih (n + 1) v' m' (i + 5) (by omega) (by omega) (by rw [ia_5 hi (by omega)]; rfl) h'
