set_option maxHeartbeats 4000000 in
set_option maxRecDepth 100000 in
theorem lc_14 {x : zFx} (C : zC x code RL 4 room_1) {b L : Nat} {xs : Nat → Int32} (X : lwX x b L xs) {a a' : Nat → Nat} {v : tAL} {m : tMo} {n : Nat} {i : Int32} (hi : i.toInt = ((5 * n : Nat) : Int)) (hL : 5 * n + 5 ≤ L) (h : Rel n v m) (go : ∀ v' m', Rel (n + 1) v' m' → vV x 4 93 1926 (wA (z_g x) a v' ++ wM (z_g x) a' m') 1098 [(3, .int i), (2, .ref (a' 0)), (1, .ref (a 0)), (0, .ref b)] []) : vV x 4 93 1926 (wA (z_g x) a v ++ wM (z_g x) a' m) 587 [(3, .int i), (2, .ref (a' 0)), (1, .ref (a 0)), (0, .ref b)] [] := by
  have hb := X.2.2.2
  have h512 : n ≤ 512 := by omega
  obtain ⟨r, r', e1, e2, e3, e4⟩ := p_veer h (xs (5 * n + 1)) (xs (5 * n + 2))
  refine r_aload_n C eL_587 2 rfl rfl ?_
  refine r_aload_n C eL_588 3 rfl rfl ?_
  refine r_iload_n C eL_589 0 rfl rfl ?_
  refine r_iconst C (v := 1) eL_590 (by decide) ?_
  refine r_iadd C eL_591 ?_
  refine lw_sld C X (k := 5 * n + 1) eL_592 (ia_1 hi (by omega)) (by omega) ?_
  refine r_aload_n C eL_593 3 rfl rfl ?_
  refine r_iload_n C eL_594 0 rfl rfl ?_
  refine r_iconst C (v := 2) eL_595 (by decide) ?_
  refine r_iadd C eL_596 ?_
  refine lw_sld C X (k := 5 * n + 2) eL_597 (ia_2 hi (by omega)) (by omega) ?_
  refine lw_Ai C (c_AL_veer (z_l x) (z_g x) a 0 v (xs (5 * n + 1)) (xs (5 * n + 2)) r e1) eL_598 KL_AL_veer ⟨0, 10, _, (RX10, TX10, 15), rfl, rfl, rfl⟩ rfl rfl rfl rfl rfl rfl rfl rfl rfl ?_
  refine r_aload_n C eL_601 1 rfl rfl ?_
  refine r_aload_n C eL_602 3 rfl rfl ?_
  refine r_iload_n C eL_603 0 rfl rfl ?_
  refine r_iconst C (v := 1) eL_604 (by decide) ?_
  refine r_iadd C eL_605 ?_
  refine lw_sld C X (k := 5 * n + 1) eL_606 (ia_1 hi (by omega)) (by omega) ?_
  refine r_aload_n C eL_607 3 rfl rfl ?_
  refine r_iload_n C eL_608 0 rfl rfl ?_
  refine r_iconst C (v := 2) eL_609 (by decide) ?_
  refine r_iadd C eL_610 ?_
  refine lw_sld C X (k := 5 * n + 2) eL_611 (ia_2 hi (by omega)) (by omega) ?_
  refine lw_Mi C (c_Mo_veer (z_l x) (z_g x) a' 0 m (xs (5 * n + 1)) (xs (5 * n + 2)) r' e2) eL_612 KL_Mo_veer ⟨0, 11, _, (RX11, TX11, 34), rfl, rfl, rfl⟩ rfl rfl rfl rfl rfl rfl rfl rfl rfl ?_
  exact r_icmp_eq C eL_615 (fun _ => go _ _ e4) (fun z => absurd e3 z)
set_option maxHeartbeats 4000000 in
set_option maxRecDepth 100000 in
theorem lc_15 {x : zFx} (C : zC x code RL 4 room_1) {b L : Nat} {xs : Nat → Int32} (X : lwX x b L xs) {a a' : Nat → Nat} {v : tAL} {m : tMo} {n : Nat} {i : Int32} (hi : i.toInt = ((5 * n : Nat) : Int)) (hL : 5 * n + 5 ≤ L) (h : Rel n v m) (go : ∀ v' m', Rel (n + 1) v' m' → vV x 4 93 1926 (wA (z_g x) a v' ++ wM (z_g x) a' m') 1098 [(3, .int i), (2, .ref (a' 0)), (1, .ref (a 0)), (0, .ref b)] []) : vV x 4 93 1926 (wA (z_g x) a v ++ wM (z_g x) a' m) 620 [(3, .int i), (2, .ref (a' 0)), (1, .ref (a 0)), (0, .ref b)] [] := by
  have hb := X.2.2.2
  have h512 : n ≤ 512 := by omega
  obtain ⟨r, r', e1, e2, e3, e4⟩ := p_cast h (xs (5 * n + 1))
  refine r_aload_n C eL_620 2 rfl rfl ?_
  refine r_aload_n C eL_621 3 rfl rfl ?_
  refine r_iload_n C eL_622 0 rfl rfl ?_
  refine r_iconst C (v := 1) eL_623 (by decide) ?_
  refine r_iadd C eL_624 ?_
  refine lw_sld C X (k := 5 * n + 1) eL_625 (ia_1 hi (by omega)) (by omega) ?_
  refine lw_Ai C (c_AL_cast (z_l x) (z_g x) a 0 v (xs (5 * n + 1)) r e1) eL_626 KL_AL_cast ⟨0, 10, _, (RX10, TX10, 15), rfl, rfl, rfl⟩ rfl rfl rfl rfl rfl rfl rfl rfl rfl ?_
  refine r_aload_n C eL_629 1 rfl rfl ?_
  refine r_aload_n C eL_630 3 rfl rfl ?_
  refine r_iload_n C eL_631 0 rfl rfl ?_
  refine r_iconst C (v := 1) eL_632 (by decide) ?_
  refine r_iadd C eL_633 ?_
  refine lw_sld C X (k := 5 * n + 1) eL_634 (ia_1 hi (by omega)) (by omega) ?_
  refine lw_Mi C (c_Mo_cast (z_l x) (z_g x) a' 0 m (xs (5 * n + 1)) r' e2) eL_635 KL_Mo_cast ⟨0, 11, _, (RX11, TX11, 34), rfl, rfl, rfl⟩ rfl rfl rfl rfl rfl rfl rfl rfl rfl ?_
  exact r_icmp_eq C eL_638 (fun _ => go _ _ e4) (fun z => absurd e3 z)
set_option maxHeartbeats 4000000 in
set_option maxRecDepth 100000 in
theorem lc_16 {x : zFx} (C : zC x code RL 4 room_1) {b L : Nat} {xs : Nat → Int32} (X : lwX x b L xs) {a a' : Nat → Nat} {v : tAL} {m : tMo} {n : Nat} {i : Int32} (hi : i.toInt = ((5 * n : Nat) : Int)) (hL : 5 * n + 5 ≤ L) (h : Rel n v m) (go : ∀ v' m', Rel (n + 1) v' m' → vV x 4 93 1926 (wA (z_g x) a v' ++ wM (z_g x) a' m') 1098 [(3, .int i), (2, .ref (a' 0)), (1, .ref (a 0)), (0, .ref b)] []) : vV x 4 93 1926 (wA (z_g x) a v ++ wM (z_g x) a' m) 643 [(3, .int i), (2, .ref (a' 0)), (1, .ref (a 0)), (0, .ref b)] [] := by
  have hb := X.2.2.2
  have h512 : n ≤ 512 := by omega
  obtain ⟨r, r', e1, e2, e3, e4⟩ := p_line h (xs (5 * n + 1)) (xs (5 * n + 2))
  refine r_aload_n C eL_643 2 rfl rfl ?_
  refine r_aload_n C eL_644 3 rfl rfl ?_
  refine r_iload_n C eL_645 0 rfl rfl ?_
  refine r_iconst C (v := 1) eL_646 (by decide) ?_
  refine r_iadd C eL_647 ?_
  refine lw_sld C X (k := 5 * n + 1) eL_648 (ia_1 hi (by omega)) (by omega) ?_
  refine r_aload_n C eL_649 3 rfl rfl ?_
  refine r_iload_n C eL_650 0 rfl rfl ?_
  refine r_iconst C (v := 2) eL_651 (by decide) ?_
  refine r_iadd C eL_652 ?_
  refine lw_sld C X (k := 5 * n + 2) eL_653 (ia_2 hi (by omega)) (by omega) ?_
  refine lw_Ai C (c_AL_line (z_l x) (z_g x) a 0 v (xs (5 * n + 1)) (xs (5 * n + 2)) r e1) eL_654 KL_AL_line ⟨0, 10, _, (RX10, TX10, 15), rfl, rfl, rfl⟩ rfl rfl rfl rfl rfl rfl rfl rfl rfl ?_
  refine r_aload_n C eL_657 1 rfl rfl ?_
  refine r_aload_n C eL_658 3 rfl rfl ?_
  refine r_iload_n C eL_659 0 rfl rfl ?_
  refine r_iconst C (v := 1) eL_660 (by decide) ?_
  refine r_iadd C eL_661 ?_
  refine lw_sld C X (k := 5 * n + 1) eL_662 (ia_1 hi (by omega)) (by omega) ?_
  refine r_aload_n C eL_663 3 rfl rfl ?_
  refine r_iload_n C eL_664 0 rfl rfl ?_
  refine r_iconst C (v := 2) eL_665 (by decide) ?_
  refine r_iadd C eL_666 ?_
  refine lw_sld C X (k := 5 * n + 2) eL_667 (ia_2 hi (by omega)) (by omega) ?_
  refine lw_Mi C (c_Mo_line (z_l x) (z_g x) a' 0 m (xs (5 * n + 1)) (xs (5 * n + 2)) r' e2) eL_668 KL_Mo_line ⟨0, 11, _, (RX11, TX11, 34), rfl, rfl, rfl⟩ rfl rfl rfl rfl rfl rfl rfl rfl rfl ?_
  exact r_icmp_eq C eL_671 (fun _ => go _ _ e4) (fun z => absurd e3 z)
set_option maxHeartbeats 4000000 in
set_option maxRecDepth 100000 in
theorem lc_17 {x : zFx} (C : zC x code RL 4 room_1) {b L : Nat} {xs : Nat → Int32} (X : lwX x b L xs) {a a' : Nat → Nat} {v : tAL} {m : tMo} {n : Nat} {i : Int32} (hi : i.toInt = ((5 * n : Nat) : Int)) (hL : 5 * n + 5 ≤ L) (h : Rel n v m) (go : ∀ v' m', Rel (n + 1) v' m' → vV x 4 93 1926 (wA (z_g x) a v' ++ wM (z_g x) a' m') 1098 [(3, .int i), (2, .ref (a' 0)), (1, .ref (a 0)), (0, .ref b)] []) : vV x 4 93 1926 (wA (z_g x) a v ++ wM (z_g x) a' m) 676 [(3, .int i), (2, .ref (a' 0)), (1, .ref (a 0)), (0, .ref b)] [] := by
  have hb := X.2.2.2
  have h512 : n ≤ 512 := by omega
  obtain ⟨r, r', e1, e2, e3, e4⟩ := p_does h (xs (5 * n + 1)) (xs (5 * n + 2))
  refine r_aload_n C eL_676 2 rfl rfl ?_
  refine r_aload_n C eL_677 3 rfl rfl ?_
  refine r_iload_n C eL_678 0 rfl rfl ?_
  refine r_iconst C (v := 1) eL_679 (by decide) ?_
  refine r_iadd C eL_680 ?_
  refine lw_sld C X (k := 5 * n + 1) eL_681 (ia_1 hi (by omega)) (by omega) ?_
  refine r_aload_n C eL_682 3 rfl rfl ?_
  refine r_iload_n C eL_683 0 rfl rfl ?_
  refine r_iconst C (v := 2) eL_684 (by decide) ?_
  refine r_iadd C eL_685 ?_
  refine lw_sld C X (k := 5 * n + 2) eL_686 (ia_2 hi (by omega)) (by omega) ?_
  refine lw_Ai C (c_AL_does (z_l x) (z_g x) a 0 v (xs (5 * n + 1)) (xs (5 * n + 2)) r e1) eL_687 KL_AL_does ⟨0, 10, _, (RX10, TX10, 15), rfl, rfl, rfl⟩ rfl rfl rfl rfl rfl rfl rfl rfl rfl ?_
  refine r_aload_n C eL_690 1 rfl rfl ?_
  refine r_aload_n C eL_691 3 rfl rfl ?_
  refine r_iload_n C eL_692 0 rfl rfl ?_
  refine r_iconst C (v := 1) eL_693 (by decide) ?_
  refine r_iadd C eL_694 ?_
  refine lw_sld C X (k := 5 * n + 1) eL_695 (ia_1 hi (by omega)) (by omega) ?_
  refine r_aload_n C eL_696 3 rfl rfl ?_
  refine r_iload_n C eL_697 0 rfl rfl ?_
  refine r_iconst C (v := 2) eL_698 (by decide) ?_
  refine r_iadd C eL_699 ?_
  refine lw_sld C X (k := 5 * n + 2) eL_700 (ia_2 hi (by omega)) (by omega) ?_
  refine lw_Mi C (c_Mo_does (z_l x) (z_g x) a' 0 m (xs (5 * n + 1)) (xs (5 * n + 2)) r' e2) eL_701 KL_Mo_does ⟨0, 11, _, (RX11, TX11, 34), rfl, rfl, rfl⟩ rfl rfl rfl rfl rfl rfl rfl rfl rfl ?_
  exact r_icmp_eq C eL_704 (fun _ => go _ _ e4) (fun z => absurd e3 z)
set_option maxHeartbeats 4000000 in
set_option maxRecDepth 100000 in
theorem lc_18 {x : zFx} (C : zC x code RL 4 room_1) {b L : Nat} {xs : Nat → Int32} (X : lwX x b L xs) {a a' : Nat → Nat} {v : tAL} {m : tMo} {n : Nat} {i : Int32} (hi : i.toInt = ((5 * n : Nat) : Int)) (hL : 5 * n + 5 ≤ L) (h : Rel n v m) (go : ∀ v' m', Rel (n + 1) v' m' → vV x 4 93 1926 (wA (z_g x) a v' ++ wM (z_g x) a' m') 1098 [(3, .int i), (2, .ref (a' 0)), (1, .ref (a 0)), (0, .ref b)] []) : vV x 4 93 1926 (wA (z_g x) a v ++ wM (z_g x) a' m) 709 [(3, .int i), (2, .ref (a' 0)), (1, .ref (a 0)), (0, .ref b)] [] := by
  have hb := X.2.2.2
  have h512 : n ≤ 512 := by omega
  obtain ⟨r, r', e1, e2, e3, e4⟩ := p_tried h h512 (xs (5 * n + 1)) (xs (5 * n + 2))
  refine r_aload_n C eL_709 2 rfl rfl ?_
  refine r_aload_n C eL_710 3 rfl rfl ?_
  refine r_iload_n C eL_711 0 rfl rfl ?_
  refine r_iconst C (v := 1) eL_712 (by decide) ?_
  refine r_iadd C eL_713 ?_
  refine lw_sld C X (k := 5 * n + 1) eL_714 (ia_1 hi (by omega)) (by omega) ?_
  refine r_aload_n C eL_715 3 rfl rfl ?_
  refine r_iload_n C eL_716 0 rfl rfl ?_
  refine r_iconst C (v := 2) eL_717 (by decide) ?_
  refine r_iadd C eL_718 ?_
  refine lw_sld C X (k := 5 * n + 2) eL_719 (ia_2 hi (by omega)) (by omega) ?_
  refine lw_Al C (c_AL_tried (z_l x) (z_g x) a 0 v (xs (5 * n + 1)) (xs (5 * n + 2)) r e1) eL_720 KL_AL_tried ⟨0, 10, _, (RX10, TX10, 15), rfl, rfl, rfl⟩ rfl rfl rfl rfl rfl rfl rfl rfl rfl ?_
  refine r_aload_n C eL_723 1 rfl rfl ?_
  refine r_aload_n C eL_724 3 rfl rfl ?_
  refine r_iload_n C eL_725 0 rfl rfl ?_
  refine r_iconst C (v := 1) eL_726 (by decide) ?_
  refine r_iadd C eL_727 ?_
  refine lw_sld C X (k := 5 * n + 1) eL_728 (ia_1 hi (by omega)) (by omega) ?_
  refine r_aload_n C eL_729 3 rfl rfl ?_
  refine r_iload_n C eL_730 0 rfl rfl ?_
  refine r_iconst C (v := 2) eL_731 (by decide) ?_
  refine r_iadd C eL_732 ?_
  refine lw_sld C X (k := 5 * n + 2) eL_733 (ia_2 hi (by omega)) (by omega) ?_
  refine lw_Ml C (c_Mo_tried (z_l x) (z_g x) a' 0 m (xs (5 * n + 1)) (xs (5 * n + 2)) r' e2) eL_734 KL_Mo_tried ⟨0, 11, _, (RX11, TX11, 34), rfl, rfl, rfl⟩ rfl rfl rfl rfl rfl rfl rfl rfl rfl ?_
  exact r_lcmp_eq C eL_737 eL_738 (fun _ => go _ _ e4) (fun z => absurd e3 z)
set_option maxHeartbeats 4000000 in
set_option maxRecDepth 100000 in
theorem lc_19 {x : zFx} (C : zC x code RL 4 room_1) {b L : Nat} {xs : Nat → Int32} (X : lwX x b L xs) {a a' : Nat → Nat} {v : tAL} {m : tMo} {n : Nat} {i : Int32} (hi : i.toInt = ((5 * n : Nat) : Int)) (hL : 5 * n + 5 ≤ L) (h : Rel n v m) (go : ∀ v' m', Rel (n + 1) v' m' → vV x 4 93 1926 (wA (z_g x) a v' ++ wM (z_g x) a' m') 1098 [(3, .int i), (2, .ref (a' 0)), (1, .ref (a 0)), (0, .ref b)] []) : vV x 4 93 1926 (wA (z_g x) a v ++ wM (z_g x) a' m) 743 [(3, .int i), (2, .ref (a' 0)), (1, .ref (a 0)), (0, .ref b)] [] := by
  have hb := X.2.2.2
  have h512 : n ≤ 512 := by omega
  obtain ⟨r, r', e1, e2, e3, e4⟩ := p_astern h h512
  refine r_aload_n C eL_743 2 rfl rfl ?_
  refine lw_Ai C (c_AL_astern (z_l x) (z_g x) a 0 v r e1) eL_744 KL_AL_astern ⟨0, 10, _, (RX10, TX10, 15), rfl, rfl, rfl⟩ rfl rfl rfl rfl rfl rfl rfl rfl rfl ?_
  refine r_aload_n C eL_747 1 rfl rfl ?_
  refine lw_Mi C (c_Mo_astern (z_l x) (z_g x) a' 0 m r' e2) eL_748 KL_Mo_astern ⟨0, 11, _, (RX11, TX11, 34), rfl, rfl, rfl⟩ rfl rfl rfl rfl rfl rfl rfl rfl rfl ?_
  exact r_icmp_eq C eL_751 (fun _ => go _ _ e4) (fun z => absurd e3 z)
set_option maxHeartbeats 4000000 in
set_option maxRecDepth 100000 in
theorem lc_20 {x : zFx} (C : zC x code RL 4 room_1) {b L : Nat} {xs : Nat → Int32} (X : lwX x b L xs) {a a' : Nat → Nat} {v : tAL} {m : tMo} {n : Nat} {i : Int32} (hi : i.toInt = ((5 * n : Nat) : Int)) (hL : 5 * n + 5 ≤ L) (h : Rel n v m) (go : ∀ v' m', Rel (n + 1) v' m' → vV x 4 93 1926 (wA (z_g x) a v' ++ wM (z_g x) a' m') 1098 [(3, .int i), (2, .ref (a' 0)), (1, .ref (a 0)), (0, .ref b)] []) : vV x 4 93 1926 (wA (z_g x) a v ++ wM (z_g x) a' m) 756 [(3, .int i), (2, .ref (a' 0)), (1, .ref (a 0)), (0, .ref b)] [] := by
  have hb := X.2.2.2
  have h512 : n ≤ 512 := by omega
  obtain ⟨r, r', e1, e2, e3, e4⟩ := p_off h h512
  refine r_aload_n C eL_756 2 rfl rfl ?_
  refine lw_Ai C (c_AL_off (z_l x) (z_g x) a 0 v r e1) eL_757 KL_AL_off ⟨0, 10, _, (RX10, TX10, 15), rfl, rfl, rfl⟩ rfl rfl rfl rfl rfl rfl rfl rfl rfl ?_
  refine r_aload_n C eL_760 1 rfl rfl ?_
  refine lw_Mi C (c_Mo_off (z_l x) (z_g x) a' 0 m r' e2) eL_761 KL_Mo_off ⟨0, 11, _, (RX11, TX11, 34), rfl, rfl, rfl⟩ rfl rfl rfl rfl rfl rfl rfl rfl rfl ?_
  exact r_icmp_eq C eL_764 (fun _ => go _ _ e4) (fun z => absurd e3 z)
