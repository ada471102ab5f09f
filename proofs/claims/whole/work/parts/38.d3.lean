set_option maxHeartbeats 4000000 in
set_option maxRecDepth 100000 in
theorem lc_21 {x : zFx} (C : zC x code RL 4 room_1) {b L : Nat} {xs : Nat → Int32} (X : lwX x b L xs) {a a' : Nat → Nat} {v : tAL} {m : tMo} {n : Nat} {i : Int32} (hi : i.toInt = ((5 * n : Nat) : Int)) (hL : 5 * n + 5 ≤ L) (h : Rel n v m) (go : ∀ v' m', Rel (n + 1) v' m' → vV x 4 93 1926 (wA (z_g x) a v' ++ wM (z_g x) a' m') 1098 [(3, .int i), (2, .ref (a' 0)), (1, .ref (a 0)), (0, .ref b)] []) : vV x 4 93 1926 (wA (z_g x) a v ++ wM (z_g x) a' m) 769 [(3, .int i), (2, .ref (a' 0)), (1, .ref (a 0)), (0, .ref b)] [] := by
  have hb := X.2.2.2
  have h512 : n ≤ 512 := by omega
  obtain ⟨r, r', e1, e2, e3, e4⟩ := p_wind h h512 (xs (5 * n + 1))
  refine r_aload_n C eL_769 2 rfl rfl ?_
  refine r_aload_n C eL_770 3 rfl rfl ?_
  refine r_iload_n C eL_771 0 rfl rfl ?_
  refine r_iconst C (v := 1) eL_772 (by decide) ?_
  refine r_iadd C eL_773 ?_
  refine lw_sld C X (k := 5 * n + 1) eL_774 (ia_1 hi (by omega)) (by omega) ?_
  refine lw_Ai C (c_AL_wind (z_l x) (z_g x) a 0 v (xs (5 * n + 1)) r e1) eL_775 KL_AL_wind ⟨0, 10, _, (RX10, TX10, 15), rfl, rfl, rfl⟩ rfl rfl rfl rfl rfl rfl rfl rfl rfl ?_
  refine r_aload_n C eL_778 1 rfl rfl ?_
  refine r_aload_n C eL_779 3 rfl rfl ?_
  refine r_iload_n C eL_780 0 rfl rfl ?_
  refine r_iconst C (v := 1) eL_781 (by decide) ?_
  refine r_iadd C eL_782 ?_
  refine lw_sld C X (k := 5 * n + 1) eL_783 (ia_1 hi (by omega)) (by omega) ?_
  refine lw_Mi C (c_Mo_wind (z_l x) (z_g x) a' 0 m (xs (5 * n + 1)) r' e2) eL_784 KL_Mo_wind ⟨0, 11, _, (RX11, TX11, 34), rfl, rfl, rfl⟩ rfl rfl rfl rfl rfl rfl rfl rfl rfl ?_
  exact r_icmp_eq C eL_787 (fun _ => go _ _ e4) (fun z => absurd e3 z)
set_option maxHeartbeats 4000000 in
set_option maxRecDepth 100000 in
theorem lc_22 {x : zFx} (C : zC x code RL 4 room_1) {b L : Nat} {xs : Nat → Int32} (X : lwX x b L xs) {a a' : Nat → Nat} {v : tAL} {m : tMo} {n : Nat} {i : Int32} (hi : i.toInt = ((5 * n : Nat) : Int)) (hL : 5 * n + 5 ≤ L) (h : Rel n v m) (go : ∀ v' m', Rel (n + 1) v' m' → vV x 4 93 1926 (wA (z_g x) a v' ++ wM (z_g x) a' m') 1098 [(3, .int i), (2, .ref (a' 0)), (1, .ref (a 0)), (0, .ref b)] []) : vV x 4 93 1926 (wA (z_g x) a v ++ wM (z_g x) a' m) 792 [(3, .int i), (2, .ref (a' 0)), (1, .ref (a 0)), (0, .ref b)] [] := by
  have hb := X.2.2.2
  have h512 : n ≤ 512 := by omega
  obtain ⟨r, r', e1, e2, e3, e4⟩ := p_gap h h512 (xs (5 * n + 1))
  refine r_aload_n C eL_792 2 rfl rfl ?_
  refine r_aload_n C eL_793 3 rfl rfl ?_
  refine r_iload_n C eL_794 0 rfl rfl ?_
  refine r_iconst C (v := 1) eL_795 (by decide) ?_
  refine r_iadd C eL_796 ?_
  refine lw_sld C X (k := 5 * n + 1) eL_797 (ia_1 hi (by omega)) (by omega) ?_
  refine lw_Ai C (c_AL_gap (z_l x) (z_g x) a 0 v (xs (5 * n + 1)) r e1) eL_798 KL_AL_gap ⟨0, 10, _, (RX10, TX10, 15), rfl, rfl, rfl⟩ rfl rfl rfl rfl rfl rfl rfl rfl rfl ?_
  refine r_aload_n C eL_801 1 rfl rfl ?_
  refine r_aload_n C eL_802 3 rfl rfl ?_
  refine r_iload_n C eL_803 0 rfl rfl ?_
  refine r_iconst C (v := 1) eL_804 (by decide) ?_
  refine r_iadd C eL_805 ?_
  refine lw_sld C X (k := 5 * n + 1) eL_806 (ia_1 hi (by omega)) (by omega) ?_
  refine lw_Mi C (c_Mo_gap (z_l x) (z_g x) a' 0 m (xs (5 * n + 1)) r' e2) eL_807 KL_Mo_gap ⟨0, 11, _, (RX11, TX11, 34), rfl, rfl, rfl⟩ rfl rfl rfl rfl rfl rfl rfl rfl rfl ?_
  exact r_icmp_eq C eL_810 (fun _ => go _ _ e4) (fun z => absurd e3 z)
set_option maxHeartbeats 4000000 in
set_option maxRecDepth 100000 in
theorem lc_23 {x : zFx} (C : zC x code RL 4 room_1) {b L : Nat} {xs : Nat → Int32} (X : lwX x b L xs) {a a' : Nat → Nat} {v : tAL} {m : tMo} {n : Nat} {i : Int32} (hi : i.toInt = ((5 * n : Nat) : Int)) (hL : 5 * n + 5 ≤ L) (h : Rel n v m) (go : ∀ v' m', Rel (n + 1) v' m' → vV x 4 93 1926 (wA (z_g x) a v' ++ wM (z_g x) a' m') 1098 [(3, .int i), (2, .ref (a' 0)), (1, .ref (a 0)), (0, .ref b)] []) : vV x 4 93 1926 (wA (z_g x) a v ++ wM (z_g x) a' m) 815 [(3, .int i), (2, .ref (a' 0)), (1, .ref (a 0)), (0, .ref b)] [] := by
  have hb := X.2.2.2
  have h512 : n ≤ 512 := by omega
  obtain ⟨r, r', e1, e2, e3, e4⟩ := p_tug h h512 (xs (5 * n + 1))
  refine r_aload_n C eL_815 2 rfl rfl ?_
  refine r_aload_n C eL_816 3 rfl rfl ?_
  refine r_iload_n C eL_817 0 rfl rfl ?_
  refine r_iconst C (v := 1) eL_818 (by decide) ?_
  refine r_iadd C eL_819 ?_
  refine lw_sld C X (k := 5 * n + 1) eL_820 (ia_1 hi (by omega)) (by omega) ?_
  refine lw_Ai C (c_AL_tug (z_l x) (z_g x) a 0 v (xs (5 * n + 1)) r e1) eL_821 KL_AL_tug ⟨0, 10, _, (RX10, TX10, 15), rfl, rfl, rfl⟩ rfl rfl rfl rfl rfl rfl rfl rfl rfl ?_
  refine r_aload_n C eL_824 1 rfl rfl ?_
  refine r_aload_n C eL_825 3 rfl rfl ?_
  refine r_iload_n C eL_826 0 rfl rfl ?_
  refine r_iconst C (v := 1) eL_827 (by decide) ?_
  refine r_iadd C eL_828 ?_
  refine lw_sld C X (k := 5 * n + 1) eL_829 (ia_1 hi (by omega)) (by omega) ?_
  refine lw_Mi C (c_Mo_tug (z_l x) (z_g x) a' 0 m (xs (5 * n + 1)) r' e2) eL_830 KL_Mo_tug ⟨0, 11, _, (RX11, TX11, 34), rfl, rfl, rfl⟩ rfl rfl rfl rfl rfl rfl rfl rfl rfl ?_
  exact r_icmp_eq C eL_833 (fun _ => go _ _ e4) (fun z => absurd e3 z)
set_option maxHeartbeats 4000000 in
set_option maxRecDepth 100000 in
theorem lc_24 {x : zFx} (C : zC x code RL 4 room_1) {b L : Nat} {xs : Nat → Int32} (X : lwX x b L xs) {a a' : Nat → Nat} {v : tAL} {m : tMo} {n : Nat} {i : Int32} (hi : i.toInt = ((5 * n : Nat) : Int)) (hL : 5 * n + 5 ≤ L) (h : Rel n v m) (go : ∀ v' m', Rel (n + 1) v' m' → vV x 4 93 1926 (wA (z_g x) a v' ++ wM (z_g x) a' m') 1098 [(3, .int i), (2, .ref (a' 0)), (1, .ref (a 0)), (0, .ref b)] []) : vV x 4 93 1926 (wA (z_g x) a v ++ wM (z_g x) a' m) 838 [(3, .int i), (2, .ref (a' 0)), (1, .ref (a 0)), (0, .ref b)] [] := by
  have hb := X.2.2.2
  have h512 : n ≤ 512 := by omega
  obtain ⟨r, r', e1, e2, e3, e4⟩ := p_needs h (xs (5 * n + 1)) (xs (5 * n + 2)) (xs (5 * n + 3))
  refine r_aload_n C eL_838 2 rfl rfl ?_
  refine r_aload_n C eL_839 3 rfl rfl ?_
  refine r_iload_n C eL_840 0 rfl rfl ?_
  refine r_iconst C (v := 1) eL_841 (by decide) ?_
  refine r_iadd C eL_842 ?_
  refine lw_sld C X (k := 5 * n + 1) eL_843 (ia_1 hi (by omega)) (by omega) ?_
  refine r_aload_n C eL_844 3 rfl rfl ?_
  refine r_iload_n C eL_845 0 rfl rfl ?_
  refine r_iconst C (v := 2) eL_846 (by decide) ?_
  refine r_iadd C eL_847 ?_
  refine lw_sld C X (k := 5 * n + 2) eL_848 (ia_2 hi (by omega)) (by omega) ?_
  refine r_aload_n C eL_849 3 rfl rfl ?_
  refine r_iload_n C eL_850 0 rfl rfl ?_
  refine r_iconst C (v := 3) eL_851 (by decide) ?_
  refine r_iadd C eL_852 ?_
  refine lw_sld C X (k := 5 * n + 3) eL_853 (ia_3 hi (by omega)) (by omega) ?_
  refine lw_Ai C (c_AL_needs (z_l x) (z_g x) a 0 v (xs (5 * n + 1)) (xs (5 * n + 2)) (xs (5 * n + 3)) r e1) eL_854 KL_AL_needs ⟨0, 10, _, (RX10, TX10, 15), rfl, rfl, rfl⟩ rfl rfl rfl rfl rfl rfl rfl rfl rfl ?_
  refine r_aload_n C eL_857 1 rfl rfl ?_
  refine r_aload_n C eL_858 3 rfl rfl ?_
  refine r_iload_n C eL_859 0 rfl rfl ?_
  refine r_iconst C (v := 1) eL_860 (by decide) ?_
  refine r_iadd C eL_861 ?_
  refine lw_sld C X (k := 5 * n + 1) eL_862 (ia_1 hi (by omega)) (by omega) ?_
  refine r_aload_n C eL_863 3 rfl rfl ?_
  refine r_iload_n C eL_864 0 rfl rfl ?_
  refine r_iconst C (v := 2) eL_865 (by decide) ?_
  refine r_iadd C eL_866 ?_
  refine lw_sld C X (k := 5 * n + 2) eL_867 (ia_2 hi (by omega)) (by omega) ?_
  refine r_aload_n C eL_868 3 rfl rfl ?_
  refine r_iload_n C eL_869 0 rfl rfl ?_
  refine r_iconst C (v := 3) eL_870 (by decide) ?_
  refine r_iadd C eL_871 ?_
  refine lw_sld C X (k := 5 * n + 3) eL_872 (ia_3 hi (by omega)) (by omega) ?_
  refine lw_Mi C (c_Mo_needs (z_l x) (z_g x) a' 0 m (xs (5 * n + 1)) (xs (5 * n + 2)) (xs (5 * n + 3)) r' e2) eL_873 KL_Mo_needs ⟨0, 11, _, (RX11, TX11, 34), rfl, rfl, rfl⟩ rfl rfl rfl rfl rfl rfl rfl rfl rfl ?_
  exact r_icmp_eq C eL_876 (fun _ => go _ _ e4) (fun z => absurd e3 z)
set_option maxHeartbeats 4000000 in
set_option maxRecDepth 100000 in
theorem lc_25 {x : zFx} (C : zC x code RL 4 room_1) {b L : Nat} {xs : Nat → Int32} (X : lwX x b L xs) {a a' : Nat → Nat} {v : tAL} {m : tMo} {n : Nat} {i : Int32} (hi : i.toInt = ((5 * n : Nat) : Int)) (hL : 5 * n + 5 ≤ L) (h : Rel n v m) (go : ∀ v' m', Rel (n + 1) v' m' → vV x 4 93 1926 (wA (z_g x) a v' ++ wM (z_g x) a' m') 1098 [(3, .int i), (2, .ref (a' 0)), (1, .ref (a 0)), (0, .ref b)] []) : vV x 4 93 1926 (wA (z_g x) a v ++ wM (z_g x) a' m) 881 [(3, .int i), (2, .ref (a' 0)), (1, .ref (a 0)), (0, .ref b)] [] := by
  have hb := X.2.2.2
  have h512 : n ≤ 512 := by omega
  obtain ⟨r, r', e1, e2, e3, e4⟩ := p_tended h (xs (5 * n + 1)) (xs (5 * n + 2)) (xs (5 * n + 3))
  refine r_aload_n C eL_881 2 rfl rfl ?_
  refine r_aload_n C eL_882 3 rfl rfl ?_
  refine r_iload_n C eL_883 0 rfl rfl ?_
  refine r_iconst C (v := 1) eL_884 (by decide) ?_
  refine r_iadd C eL_885 ?_
  refine lw_sld C X (k := 5 * n + 1) eL_886 (ia_1 hi (by omega)) (by omega) ?_
  refine r_aload_n C eL_887 3 rfl rfl ?_
  refine r_iload_n C eL_888 0 rfl rfl ?_
  refine r_iconst C (v := 2) eL_889 (by decide) ?_
  refine r_iadd C eL_890 ?_
  refine lw_sld C X (k := 5 * n + 2) eL_891 (ia_2 hi (by omega)) (by omega) ?_
  refine r_aload_n C eL_892 3 rfl rfl ?_
  refine r_iload_n C eL_893 0 rfl rfl ?_
  refine r_iconst C (v := 3) eL_894 (by decide) ?_
  refine r_iadd C eL_895 ?_
  refine lw_sld C X (k := 5 * n + 3) eL_896 (ia_3 hi (by omega)) (by omega) ?_
  refine lw_Ai C (c_AL_tended (z_l x) (z_g x) a 0 v (xs (5 * n + 1)) (xs (5 * n + 2)) (xs (5 * n + 3)) r e1) eL_897 KL_AL_tended ⟨0, 10, _, (RX10, TX10, 15), rfl, rfl, rfl⟩ rfl rfl rfl rfl rfl rfl rfl rfl rfl ?_
  refine r_aload_n C eL_900 1 rfl rfl ?_
  refine r_aload_n C eL_901 3 rfl rfl ?_
  refine r_iload_n C eL_902 0 rfl rfl ?_
  refine r_iconst C (v := 1) eL_903 (by decide) ?_
  refine r_iadd C eL_904 ?_
  refine lw_sld C X (k := 5 * n + 1) eL_905 (ia_1 hi (by omega)) (by omega) ?_
  refine r_aload_n C eL_906 3 rfl rfl ?_
  refine r_iload_n C eL_907 0 rfl rfl ?_
  refine r_iconst C (v := 2) eL_908 (by decide) ?_
  refine r_iadd C eL_909 ?_
  refine lw_sld C X (k := 5 * n + 2) eL_910 (ia_2 hi (by omega)) (by omega) ?_
  refine r_aload_n C eL_911 3 rfl rfl ?_
  refine r_iload_n C eL_912 0 rfl rfl ?_
  refine r_iconst C (v := 3) eL_913 (by decide) ?_
  refine r_iadd C eL_914 ?_
  refine lw_sld C X (k := 5 * n + 3) eL_915 (ia_3 hi (by omega)) (by omega) ?_
  refine lw_Mi C (c_Mo_tended (z_l x) (z_g x) a' 0 m (xs (5 * n + 1)) (xs (5 * n + 2)) (xs (5 * n + 3)) r' e2) eL_916 KL_Mo_tended ⟨0, 11, _, (RX11, TX11, 34), rfl, rfl, rfl⟩ rfl rfl rfl rfl rfl rfl rfl rfl rfl ?_
  exact r_icmp_eq C eL_919 (fun _ => go _ _ e4) (fun z => absurd e3 z)
set_option maxHeartbeats 4000000 in
set_option maxRecDepth 100000 in
theorem lc_26 {x : zFx} (C : zC x code RL 4 room_1) {b L : Nat} {xs : Nat → Int32} (X : lwX x b L xs) {a a' : Nat → Nat} {v : tAL} {m : tMo} {n : Nat} {i : Int32} (hi : i.toInt = ((5 * n : Nat) : Int)) (hL : 5 * n + 5 ≤ L) (h : Rel n v m) (go : ∀ v' m', Rel (n + 1) v' m' → vV x 4 93 1926 (wA (z_g x) a v' ++ wM (z_g x) a' m') 1098 [(3, .int i), (2, .ref (a' 0)), (1, .ref (a 0)), (0, .ref b)] []) : vV x 4 93 1926 (wA (z_g x) a v ++ wM (z_g x) a' m) 924 [(3, .int i), (2, .ref (a' 0)), (1, .ref (a 0)), (0, .ref b)] [] := by
  have hb := X.2.2.2
  have h512 : n ≤ 512 := by omega
  obtain ⟨r, r', e1, e2, e3, e4⟩ := p_wakes h (xs (5 * n + 1))
  refine r_aload_n C eL_924 2 rfl rfl ?_
  refine r_aload_n C eL_925 3 rfl rfl ?_
  refine r_iload_n C eL_926 0 rfl rfl ?_
  refine r_iconst C (v := 1) eL_927 (by decide) ?_
  refine r_iadd C eL_928 ?_
  refine lw_sld C X (k := 5 * n + 1) eL_929 (ia_1 hi (by omega)) (by omega) ?_
  refine lw_Ai C (c_AL_wakes (z_l x) (z_g x) a 0 v (xs (5 * n + 1)) r e1) eL_930 KL_AL_wakes ⟨0, 10, _, (RX10, TX10, 15), rfl, rfl, rfl⟩ rfl rfl rfl rfl rfl rfl rfl rfl rfl ?_
  refine r_aload_n C eL_933 1 rfl rfl ?_
  refine r_aload_n C eL_934 3 rfl rfl ?_
  refine r_iload_n C eL_935 0 rfl rfl ?_
  refine r_iconst C (v := 1) eL_936 (by decide) ?_
  refine r_iadd C eL_937 ?_
  refine lw_sld C X (k := 5 * n + 1) eL_938 (ia_1 hi (by omega)) (by omega) ?_
  refine lw_Mi C (c_Mo_wakes (z_l x) (z_g x) a' 0 m (xs (5 * n + 1)) r' e2) eL_939 KL_Mo_wakes ⟨0, 11, _, (RX11, TX11, 34), rfl, rfl, rfl⟩ rfl rfl rfl rfl rfl rfl rfl rfl rfl ?_
  exact r_icmp_eq C eL_942 (fun _ => go _ _ e4) (fun z => absurd e3 z)
set_option maxHeartbeats 4000000 in
set_option maxRecDepth 100000 in
theorem lc_27 {x : zFx} (C : zC x code RL 4 room_1) {b L : Nat} {xs : Nat → Int32} (X : lwX x b L xs) {a a' : Nat → Nat} {v : tAL} {m : tMo} {n : Nat} {i : Int32} (hi : i.toInt = ((5 * n : Nat) : Int)) (hL : 5 * n + 5 ≤ L) (h : Rel n v m) (go : ∀ v' m', Rel (n + 1) v' m' → vV x 4 93 1926 (wA (z_g x) a v' ++ wM (z_g x) a' m') 1098 [(3, .int i), (2, .ref (a' 0)), (1, .ref (a 0)), (0, .ref b)] []) : vV x 4 93 1926 (wA (z_g x) a v ++ wM (z_g x) a' m) 947 [(3, .int i), (2, .ref (a' 0)), (1, .ref (a 0)), (0, .ref b)] [] := by
  have hb := X.2.2.2
  have h512 : n ≤ 512 := by omega
  obtain ⟨r, r', e1, e2, e3, e4⟩ := p_order h (xs (5 * n + 1))
  refine r_aload_n C eL_947 2 rfl rfl ?_
  refine r_aload_n C eL_948 3 rfl rfl ?_
  refine r_iload_n C eL_949 0 rfl rfl ?_
  refine r_iconst C (v := 1) eL_950 (by decide) ?_
  refine r_iadd C eL_951 ?_
  refine lw_sld C X (k := 5 * n + 1) eL_952 (ia_1 hi (by omega)) (by omega) ?_
  refine lw_Ai C (c_AL_order (z_l x) (z_g x) a 0 v (xs (5 * n + 1)) r e1) eL_953 KL_AL_order ⟨0, 10, _, (RX10, TX10, 15), rfl, rfl, rfl⟩ rfl rfl rfl rfl rfl rfl rfl rfl rfl ?_
  refine r_aload_n C eL_956 1 rfl rfl ?_
  refine r_aload_n C eL_957 3 rfl rfl ?_
  refine r_iload_n C eL_958 0 rfl rfl ?_
  refine r_iconst C (v := 1) eL_959 (by decide) ?_
  refine r_iadd C eL_960 ?_
  refine lw_sld C X (k := 5 * n + 1) eL_961 (ia_1 hi (by omega)) (by omega) ?_
  refine lw_Mi C (c_Mo_order (z_l x) (z_g x) a' 0 m (xs (5 * n + 1)) r' e2) eL_962 KL_Mo_order ⟨0, 11, _, (RX11, TX11, 34), rfl, rfl, rfl⟩ rfl rfl rfl rfl rfl rfl rfl rfl rfl ?_
  exact r_icmp_eq C eL_965 (fun _ => go _ _ e4) (fun z => absurd e3 z)
