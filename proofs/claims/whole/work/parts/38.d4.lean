set_option maxHeartbeats 4000000 in
set_option maxRecDepth 100000 in
theorem lc_28 {x : zFx} (C : zC x code RL 4 room_1) {b L : Nat} {xs : Nat → Int32} (X : lwX x b L xs) {a a' : Nat → Nat} {v : tAL} {m : tMo} {n : Nat} {i : Int32} (hi : i.toInt = ((5 * n : Nat) : Int)) (hL : 5 * n + 5 ≤ L) (h : Rel n v m) (go : ∀ v' m', Rel (n + 1) v' m' → vV x 4 93 1926 (wA (z_g x) a v' ++ wM (z_g x) a' m') 1098 [(3, .int i), (2, .ref (a' 0)), (1, .ref (a 0)), (0, .ref b)] []) : vV x 4 93 1926 (wA (z_g x) a v ++ wM (z_g x) a' m) 970 [(3, .int i), (2, .ref (a' 0)), (1, .ref (a 0)), (0, .ref b)] [] := by
  have hb := X.2.2.2
  have h512 : n ≤ 512 := by omega
  obtain ⟨r, r', e1, e2, e3, e4⟩ := p_log h (xs (5 * n + 1))
  refine r_aload_n C eL_970 2 rfl rfl ?_
  refine r_aload_n C eL_971 3 rfl rfl ?_
  refine r_iload_n C eL_972 0 rfl rfl ?_
  refine r_iconst C (v := 1) eL_973 (by decide) ?_
  refine r_iadd C eL_974 ?_
  refine lw_sld C X (k := 5 * n + 1) eL_975 (ia_1 hi (by omega)) (by omega) ?_
  refine lw_Ai C (c_AL_log (z_l x) (z_g x) a 0 v (xs (5 * n + 1)) r e1) eL_976 KL_AL_log ⟨0, 10, _, (RX10, TX10, 15), rfl, rfl, rfl⟩ rfl rfl rfl rfl rfl rfl rfl rfl rfl ?_
  refine r_aload_n C eL_979 1 rfl rfl ?_
  refine r_aload_n C eL_980 3 rfl rfl ?_
  refine r_iload_n C eL_981 0 rfl rfl ?_
  refine r_iconst C (v := 1) eL_982 (by decide) ?_
  refine r_iadd C eL_983 ?_
  refine lw_sld C X (k := 5 * n + 1) eL_984 (ia_1 hi (by omega)) (by omega) ?_
  refine lw_Mi C (c_Mo_log (z_l x) (z_g x) a' 0 m (xs (5 * n + 1)) r' e2) eL_985 KL_Mo_log ⟨0, 11, _, (RX11, TX11, 34), rfl, rfl, rfl⟩ rfl rfl rfl rfl rfl rfl rfl rfl rfl ?_
  exact r_icmp_eq C eL_988 (fun _ => go _ _ e4) (fun z => absurd e3 z)
set_option maxHeartbeats 4000000 in
set_option maxRecDepth 100000 in
theorem lc_29 {x : zFx} (C : zC x code RL 4 room_1) {b L : Nat} {xs : Nat → Int32} (X : lwX x b L xs) {a a' : Nat → Nat} {v : tAL} {m : tMo} {n : Nat} {i : Int32} (hi : i.toInt = ((5 * n : Nat) : Int)) (hL : 5 * n + 5 ≤ L) (h : Rel n v m) (go : ∀ v' m', Rel (n + 1) v' m' → vV x 4 93 1926 (wA (z_g x) a v' ++ wM (z_g x) a' m') 1098 [(3, .int i), (2, .ref (a' 0)), (1, .ref (a 0)), (0, .ref b)] []) : vV x 4 93 1926 (wA (z_g x) a v ++ wM (z_g x) a' m) 993 [(3, .int i), (2, .ref (a' 0)), (1, .ref (a 0)), (0, .ref b)] [] := by
  have hb := X.2.2.2
  have h512 : n ≤ 512 := by omega
  obtain ⟨e3, e4⟩ := p_clear h
  refine r_aload_n C eL_993 2 rfl rfl ?_
  refine lw_Ai C (c_AL_clear (z_l x) (z_g x) a 0 v _ rfl) eL_994 KL_AL_clear ⟨0, 10, _, (RX10, TX10, 15), rfl, rfl, rfl⟩ rfl rfl rfl rfl rfl rfl rfl rfl rfl ?_
  refine r_aload_n C eL_997 1 rfl rfl ?_
  refine lw_Mi C (c_Mo_clear (z_l x) (z_g x) a' 0 m _ rfl) eL_998 KL_Mo_clear ⟨0, 11, _, (RX11, TX11, 34), rfl, rfl, rfl⟩ rfl rfl rfl rfl rfl rfl rfl rfl rfl ?_
  exact r_icmp_eq C eL_1001 (fun _ => go _ _ e4) (fun z => absurd e3 z)
set_option maxHeartbeats 4000000 in
set_option maxRecDepth 100000 in
theorem lc_30 {x : zFx} (C : zC x code RL 4 room_1) {b L : Nat} {xs : Nat → Int32} (X : lwX x b L xs) {a a' : Nat → Nat} {v : tAL} {m : tMo} {n : Nat} {i : Int32} (hi : i.toInt = ((5 * n : Nat) : Int)) (hL : 5 * n + 5 ≤ L) (h : Rel n v m) (go : ∀ v' m', Rel (n + 1) v' m' → vV x 4 93 1926 (wA (z_g x) a v' ++ wM (z_g x) a' m') 1098 [(3, .int i), (2, .ref (a' 0)), (1, .ref (a 0)), (0, .ref b)] []) : vV x 4 93 1926 (wA (z_g x) a v ++ wM (z_g x) a' m) 1006 [(3, .int i), (2, .ref (a' 0)), (1, .ref (a 0)), (0, .ref b)] [] := by
  have hb := X.2.2.2
  have h512 : n ≤ 512 := by omega
  obtain ⟨r, r', e1, e2, e3, e4⟩ := p_judge h h512 (xs (5 * n + 1))
  refine r_aload_n C eL_1006 2 rfl rfl ?_
  refine r_aload_n C eL_1007 3 rfl rfl ?_
  refine r_iload_n C eL_1008 0 rfl rfl ?_
  refine r_iconst C (v := 1) eL_1009 (by decide) ?_
  refine r_iadd C eL_1010 ?_
  refine lw_sld C X (k := 5 * n + 1) eL_1011 (ia_1 hi (by omega)) (by omega) ?_
  refine lw_Ai C (c_AL_judge (z_l x) (z_g x) a 0 v (xs (5 * n + 1)) r e1) eL_1012 KL_AL_judge ⟨0, 10, _, (RX10, TX10, 15), rfl, rfl, rfl⟩ rfl rfl rfl rfl rfl rfl rfl rfl rfl ?_
  refine r_aload_n C eL_1015 1 rfl rfl ?_
  refine r_aload_n C eL_1016 3 rfl rfl ?_
  refine r_iload_n C eL_1017 0 rfl rfl ?_
  refine r_iconst C (v := 1) eL_1018 (by decide) ?_
  refine r_iadd C eL_1019 ?_
  refine lw_sld C X (k := 5 * n + 1) eL_1020 (ia_1 hi (by omega)) (by omega) ?_
  refine lw_Mi C (c_Mo_judge (z_l x) (z_g x) a' 0 m (xs (5 * n + 1)) r' e2) eL_1021 KL_Mo_judge ⟨0, 11, _, (RX11, TX11, 34), rfl, rfl, rfl⟩ rfl rfl rfl rfl rfl rfl rfl rfl rfl ?_
  exact r_icmp_eq C eL_1024 (fun _ => go _ _ e4) (fun z => absurd e3 z)
set_option maxHeartbeats 4000000 in
set_option maxRecDepth 100000 in
theorem lc_31 {x : zFx} (C : zC x code RL 4 room_1) {b L : Nat} {xs : Nat → Int32} (X : lwX x b L xs) {a a' : Nat → Nat} {v : tAL} {m : tMo} {n : Nat} {i : Int32} (hi : i.toInt = ((5 * n : Nat) : Int)) (hL : 5 * n + 5 ≤ L) (h : Rel n v m) (go : ∀ v' m', Rel (n + 1) v' m' → vV x 4 93 1926 (wA (z_g x) a v' ++ wM (z_g x) a' m') 1098 [(3, .int i), (2, .ref (a' 0)), (1, .ref (a 0)), (0, .ref b)] []) : vV x 4 93 1926 (wA (z_g x) a v ++ wM (z_g x) a' m) 1029 [(3, .int i), (2, .ref (a' 0)), (1, .ref (a 0)), (0, .ref b)] [] := by
  have hb := X.2.2.2
  have h512 : n ≤ 512 := by omega
  obtain ⟨e3, e4⟩ := p_seed h (xs (5 * n + 1))
  refine r_aload_n C eL_1029 2 rfl rfl ?_
  refine r_aload_n C eL_1030 3 rfl rfl ?_
  refine r_iload_n C eL_1031 0 rfl rfl ?_
  refine r_iconst C (v := 1) eL_1032 (by decide) ?_
  refine r_iadd C eL_1033 ?_
  refine lw_sld C X (k := 5 * n + 1) eL_1034 (ia_1 hi (by omega)) (by omega) ?_
  refine lw_Ai C (c_AL_seed (z_l x) (z_g x) a 0 v (xs (5 * n + 1)) _ rfl) eL_1035 KL_AL_seed ⟨0, 10, _, (RX10, TX10, 15), rfl, rfl, rfl⟩ rfl rfl rfl rfl rfl rfl rfl rfl rfl ?_
  refine r_aload_n C eL_1038 1 rfl rfl ?_
  refine r_aload_n C eL_1039 3 rfl rfl ?_
  refine r_iload_n C eL_1040 0 rfl rfl ?_
  refine r_iconst C (v := 1) eL_1041 (by decide) ?_
  refine r_iadd C eL_1042 ?_
  refine lw_sld C X (k := 5 * n + 1) eL_1043 (ia_1 hi (by omega)) (by omega) ?_
  refine lw_Mi C (c_Mo_seed (z_l x) (z_g x) a' 0 m (xs (5 * n + 1)) _ rfl) eL_1044 KL_Mo_seed ⟨0, 11, _, (RX11, TX11, 34), rfl, rfl, rfl⟩ rfl rfl rfl rfl rfl rfl rfl rfl rfl ?_
  exact r_icmp_eq C eL_1047 (fun _ => go _ _ e4) (fun z => absurd e3 z)
set_option maxHeartbeats 4000000 in
set_option maxRecDepth 100000 in
theorem lc_32 {x : zFx} (C : zC x code RL 4 room_1) {b L : Nat} {xs : Nat → Int32} (X : lwX x b L xs) {a a' : Nat → Nat} {v : tAL} {m : tMo} {n : Nat} {i : Int32} (hi : i.toInt = ((5 * n : Nat) : Int)) (hL : 5 * n + 5 ≤ L) (h : Rel n v m) (go : ∀ v' m', Rel (n + 1) v' m' → vV x 4 93 1926 (wA (z_g x) a v' ++ wM (z_g x) a' m') 1098 [(3, .int i), (2, .ref (a' 0)), (1, .ref (a 0)), (0, .ref b)] []) : vV x 4 93 1926 (wA (z_g x) a v ++ wM (z_g x) a' m) 1052 [(3, .int i), (2, .ref (a' 0)), (1, .ref (a 0)), (0, .ref b)] [] := by
  have hb := X.2.2.2
  have h512 : n ≤ 512 := by omega
  obtain ⟨r, r', e1, e2, e3, e4⟩ := p_keep h (xs (5 * n + 1))
  refine r_aload_n C eL_1052 2 rfl rfl ?_
  refine r_aload_n C eL_1053 3 rfl rfl ?_
  refine r_iload_n C eL_1054 0 rfl rfl ?_
  refine r_iconst C (v := 1) eL_1055 (by decide) ?_
  refine r_iadd C eL_1056 ?_
  refine lw_sld C X (k := 5 * n + 1) eL_1057 (ia_1 hi (by omega)) (by omega) ?_
  refine lw_Ai C (c_AL_keep (z_l x) (z_g x) a 0 v (xs (5 * n + 1)) r e1) eL_1058 KL_AL_keep ⟨0, 10, _, (RX10, TX10, 15), rfl, rfl, rfl⟩ rfl rfl rfl rfl rfl rfl rfl rfl rfl ?_
  refine r_aload_n C eL_1061 1 rfl rfl ?_
  refine r_aload_n C eL_1062 3 rfl rfl ?_
  refine r_iload_n C eL_1063 0 rfl rfl ?_
  refine r_iconst C (v := 1) eL_1064 (by decide) ?_
  refine r_iadd C eL_1065 ?_
  refine lw_sld C X (k := 5 * n + 1) eL_1066 (ia_1 hi (by omega)) (by omega) ?_
  refine lw_Mi C (c_Mo_keep (z_l x) (z_g x) a' 0 m (xs (5 * n + 1)) r' e2) eL_1067 KL_Mo_keep ⟨0, 11, _, (RX11, TX11, 34), rfl, rfl, rfl⟩ rfl rfl rfl rfl rfl rfl rfl rfl rfl ?_
  exact r_icmp_eq C eL_1070 (fun _ => go _ _ e4) (fun z => absurd e3 z)
set_option maxHeartbeats 4000000 in
set_option maxRecDepth 100000 in
theorem lc_33 {x : zFx} (C : zC x code RL 4 room_1) {b L : Nat} {xs : Nat → Int32} (X : lwX x b L xs) {a a' : Nat → Nat} {v : tAL} {m : tMo} {n : Nat} {i : Int32} (hi : i.toInt = ((5 * n : Nat) : Int)) (hL : 5 * n + 5 ≤ L) (h : Rel n v m) (go : ∀ v' m', Rel (n + 1) v' m' → vV x 4 93 1926 (wA (z_g x) a v' ++ wM (z_g x) a' m') 1098 [(3, .int i), (2, .ref (a' 0)), (1, .ref (a 0)), (0, .ref b)] []) : vV x 4 93 1926 (wA (z_g x) a v ++ wM (z_g x) a' m) 1075 [(3, .int i), (2, .ref (a' 0)), (1, .ref (a 0)), (0, .ref b)] [] := by
  have hb := X.2.2.2
  have h512 : n ≤ 512 := by omega
  obtain ⟨r, r', e1, e2, e3, e4⟩ := p_goBack h (xs (5 * n + 1))
  refine r_aload_n C eL_1075 2 rfl rfl ?_
  refine r_aload_n C eL_1076 3 rfl rfl ?_
  refine r_iload_n C eL_1077 0 rfl rfl ?_
  refine r_iconst C (v := 1) eL_1078 (by decide) ?_
  refine r_iadd C eL_1079 ?_
  refine lw_sld C X (k := 5 * n + 1) eL_1080 (ia_1 hi (by omega)) (by omega) ?_
  refine lw_Ai C (c_AL_goBack (z_l x) (z_g x) a 0 v (xs (5 * n + 1)) r e1) eL_1081 KL_AL_goBack ⟨0, 10, _, (RX10, TX10, 15), rfl, rfl, rfl⟩ rfl rfl rfl rfl rfl rfl rfl rfl rfl ?_
  refine r_aload_n C eL_1084 1 rfl rfl ?_
  refine r_aload_n C eL_1085 3 rfl rfl ?_
  refine r_iload_n C eL_1086 0 rfl rfl ?_
  refine r_iconst C (v := 1) eL_1087 (by decide) ?_
  refine r_iadd C eL_1088 ?_
  refine lw_sld C X (k := 5 * n + 1) eL_1089 (ia_1 hi (by omega)) (by omega) ?_
  refine lw_Mi C (c_Mo_goBack (z_l x) (z_g x) a' 0 m (xs (5 * n + 1)) r' e2) eL_1090 KL_Mo_goBack ⟨0, 11, _, (RX11, TX11, 34), rfl, rfl, rfl⟩ rfl rfl rfl rfl rfl rfl rfl rfl rfl ?_
  exact r_icmp_eq C eL_1093 (fun _ => go _ _ e4) (fun z => absurd e3 z)
