/-! THE PURE SIDE 61: told clauses, the reference -/
theorem lq_0 : fT 0 = 0 ∧ cLo 0 0 0 = 0 ∧ hiT 0 0 = 9999 ∧ hiT 0 1 = 9999 := by decide +kernel
theorem lq_2 : fT 2 = 2 ∧ cLo 2 0 0 = 500 ∧ hiT 2 0 = 9000 ∧ cLo 2 1 0 = 1 ∧ hiT 2 1 = 99 := by decide +kernel
theorem lq_3 : fT 3 = 4 ∧ cLo 3 0 0 = 0 ∧ hiT 3 0 = 50 ∧ cLo 3 1 0 = 0 ∧ hiT 3 1 = 99 := by decide +kernel
theorem lq_4 : fT 4 = 6 ∧ cLo 4 0 0 = 0 ∧ hiT 4 0 = 99 := by decide +kernel
theorem lq_5 : fT 5 = 7 ∧ cLo 5 0 0 = 0 ∧ hiT 5 0 = 50 ∧ cLo 5 1 0 = 0 ∧ hiT 5 1 = 50 ∧ cLo 5 2 0 = 0 ∧ hiT 5 2 = 50 := by decide +kernel
theorem lq_6 : fT 6 = 10 ∧ cLo 6 0 0 = 0 ∧ hiT 6 0 = 99 := by decide +kernel
theorem lq_7 : fT 7 = 11 ∧ cLo 7 0 0 = 1 ∧ hiT 7 0 = 99 := by decide +kernel
theorem lq_8 : fT 8 = 12 ∧ cLo 8 0 0 = 0 ∧ hiT 8 0 = 999 := by decide +kernel
def tcR (T : Nat → Int) (n b c N : Nat) (g : Nat → Int32) (v0 : tMo) (w : Int32 × (Nat → Int32) × (Nat → Int32) × (Nat → Int32) × (Nat → Int32)) : Prop := tkS T n b c g (gMo_readTold v0) N (w.1, w.2.1, w.2.2.1) ∧ w.2.2.2.1 = gMo_readX v0 ∧ w.2.2.2.2 = gMo_readStrong v0
section
variable {n b : Nat} {T : Nat → Int} {g : Nat → Int32} {v0 : tMo} {r1 : (Nat → Int32) × Int64}
theorem tc_0 (hB : TxB n T) (hT : mT g (gMo_text v0) n T) (hb : b ≤ n) (g13 : (g 13).toInt = (b : Int)) : ∃ w8, tcS v0 r1 g 0 = some w8 ∧ tcR T n b 0 2 g v0 w8 := by
  obtain ⟨fe, l0, u0, u1⟩ := lq_0
  have m0 : cLo 0 0 (nV T n b) = 0 := (cLo_c (by decide) _ 0).trans l0
  unfold tcS
  rw [if_pos rfl]
  refine bind_ex' (tk_next (c := 0) (j := 0) (w := (0, g, gMo_readTold v0)) (M := (g, gMo_told v0, gMo_postX v0, gMo_postStrong v0, gMo_atRow v0, gMo_heights v0, gMo_ship v0, gMo_lines v0, gMo_text v0, r1.2, gMo_readTold v0, gMo_readX v0, gMo_readStrong v0, gMo_readRow v0, gMo_parting v0, gMo_wasShip v0, gMo_wasLines v0, gMo_worst v0, gMo_logRow v0, gMo_images v0, gMo_isKept v0)) (p1 := 0) (p2 := 0) (p3 := 9999) hB rfl rfl hT hb (tk_0 rfl rfl rfl g13) rfl (by rw [fe]; rfl) (by rw [fe]; decide) (by rw [m0]; rfl) (by rw [u0]; rfl)) (fun r0 h0 => ?_)
  rcases stg_le h0.1 with ⟨a, b', -⟩ | ⟨y, a, b', -⟩
  · rw [if_pos (show r0.1 ≤ 0 from b')]
    have v0' := h0.2.2 a 0 (by decide)
    rw [fe] at v0'
    have v0' : (r0.2.2 0).toInt = nV T n b := v0'
    have vb := nF_0 hb (nfT_0 a).2.1
    have m1' : (r0.2.2 0 + 1).toInt = cLo 0 1 (nV T n b) := by
      rw [((rp.of 9999 v0' (by have := vb.2.2.2.2; omega) (by have := vb.2.2.2.2; omega)).add (rp.lit 1 1 (a := 1) rfl rfl) (by decide)).1]; rfl
    exact bind_ex' (tk_next (c := 0) (j := 1) (M := (r0.2.1, gMo_told v0, gMo_postX v0, gMo_postStrong v0, gMo_atRow v0, gMo_heights v0, gMo_ship v0, gMo_lines v0, gMo_text v0, r1.2, r0.2.2, gMo_readX v0, gMo_readStrong v0, gMo_readRow v0, gMo_parting v0, gMo_wasShip v0, gMo_wasLines v0, gMo_worst v0, gMo_logRow v0, gMo_images v0, gMo_isKept v0)) (p1 := 1) (p2 := (r0.2.2 0 + 1)) (p3 := 9999) hB rfl rfl hT hb h0 a (by rw [fe]; rfl) (by rw [fe]; decide) m1' (by rw [u1]; rfl)) (fun r2 h2 => ⟨_, rfl, h2, rfl, rfl⟩)
  · rw [if_neg (show ¬ r0.1 ≤ 0 from b')]
    exact ⟨_, rfl, tk_stay h0 a, rfl, rfl⟩
theorem tc_2 (hB : TxB n T) (hT : mT g (gMo_text v0) n T) (hb : b ≤ n) (g13 : (g 13).toInt = (b : Int)) : ∃ w8, tcS v0 r1 g 2 = some w8 ∧ tcR T n b 2 2 g v0 w8 := by
  obtain ⟨fe, l0, u0, l1, u1⟩ := lq_2
  have m0 : cLo 2 0 (nV T n b) = 500 := (cLo_c (by decide) _ 0).trans l0
  have m1 : cLo 2 1 (nV T n b) = 1 := (cLo_c (by decide) _ 0).trans l1
  unfold tcS
  rw [if_neg (show ¬ (2 : Int32) = 0 by decide), if_neg (show ¬ (2 : Int32) = 1 by decide), if_pos rfl]
  refine bind_ex' (tk_next (c := 2) (j := 0) (w := (0, g, gMo_readTold v0)) (M := (g, gMo_told v0, gMo_postX v0, gMo_postStrong v0, gMo_atRow v0, gMo_heights v0, gMo_ship v0, gMo_lines v0, gMo_text v0, r1.2, gMo_readTold v0, gMo_readX v0, gMo_readStrong v0, gMo_readRow v0, gMo_parting v0, gMo_wasShip v0, gMo_wasLines v0, gMo_worst v0, gMo_logRow v0, gMo_images v0, gMo_isKept v0)) (p1 := 2) (p2 := 500) (p3 := 9000) hB rfl rfl hT hb (tk_0 rfl rfl rfl g13) rfl (by rw [fe]; rfl) (by rw [fe]; decide) (by rw [m0]; rfl) (by rw [u0]; rfl)) (fun r0 h0 => ?_)
  rcases stg_le h0.1 with ⟨a, b', -⟩ | ⟨y, a, b', -⟩
  · rw [if_pos (show r0.1 ≤ 0 from b')]
    exact bind_ex' (tk_next (c := 2) (j := 1) (M := (r0.2.1, gMo_told v0, gMo_postX v0, gMo_postStrong v0, gMo_atRow v0, gMo_heights v0, gMo_ship v0, gMo_lines v0, gMo_text v0, r1.2, r0.2.2, gMo_readX v0, gMo_readStrong v0, gMo_readRow v0, gMo_parting v0, gMo_wasShip v0, gMo_wasLines v0, gMo_worst v0, gMo_logRow v0, gMo_images v0, gMo_isKept v0)) (p1 := 3) (p2 := 1) (p3 := 99) hB rfl rfl hT hb h0 a (by rw [fe]; rfl) (by rw [fe]; decide) (by rw [m1]; rfl) (by rw [u1]; rfl)) (fun r2 h2 => ⟨_, rfl, h2, rfl, rfl⟩)
  · rw [if_neg (show ¬ r0.1 ≤ 0 from b')]
    exact ⟨_, rfl, tk_stay h0 a, rfl, rfl⟩
theorem tc_3 (hB : TxB n T) (hT : mT g (gMo_text v0) n T) (hb : b ≤ n) (g13 : (g 13).toInt = (b : Int)) : ∃ w8, tcS v0 r1 g 9 = some w8 ∧ tcR T n b 3 2 g v0 w8 := by
  obtain ⟨fe, l0, u0, l1, u1⟩ := lq_3
  have m0 : cLo 3 0 (nV T n b) = 0 := (cLo_c (by decide) _ 0).trans l0
  have m1 : cLo 3 1 (nV T n b) = 0 := (cLo_c (by decide) _ 0).trans l1
  unfold tcS
  rw [if_neg (show ¬ (9 : Int32) = 0 by decide), if_neg (show ¬ (9 : Int32) = 1 by decide), if_neg (show ¬ (9 : Int32) = 2 by decide), if_neg (show ¬ (9 : Int32) = 3 by decide), if_neg (show ¬ (9 : Int32) = 4 by decide), if_neg (show ¬ (9 : Int32) = 5 by decide), if_neg (show ¬ (9 : Int32) = 6 by decide), if_neg (show ¬ (9 : Int32) = 7 by decide), if_neg (show ¬ (9 : Int32) = 8 by decide)]
  refine bind_ex' (tk_next (c := 3) (j := 0) (w := (0, g, gMo_readTold v0)) (M := (g, gMo_told v0, gMo_postX v0, gMo_postStrong v0, gMo_atRow v0, gMo_heights v0, gMo_ship v0, gMo_lines v0, gMo_text v0, r1.2, gMo_readTold v0, gMo_readX v0, gMo_readStrong v0, gMo_readRow v0, gMo_parting v0, gMo_wasShip v0, gMo_wasLines v0, gMo_worst v0, gMo_logRow v0, gMo_images v0, gMo_isKept v0)) (p1 := 4) (p2 := 0) (p3 := 50) hB rfl rfl hT hb (tk_0 rfl rfl rfl g13) rfl (by rw [fe]; rfl) (by rw [fe]; decide) (by rw [m0]; rfl) (by rw [u0]; rfl)) (fun r0 h0 => ?_)
  rcases stg_le h0.1 with ⟨a, b', -⟩ | ⟨y, a, b', -⟩
  · rw [if_pos (show r0.1 ≤ 0 from b')]
    exact bind_ex' (tk_next (c := 3) (j := 1) (M := (r0.2.1, gMo_told v0, gMo_postX v0, gMo_postStrong v0, gMo_atRow v0, gMo_heights v0, gMo_ship v0, gMo_lines v0, gMo_text v0, r1.2, r0.2.2, gMo_readX v0, gMo_readStrong v0, gMo_readRow v0, gMo_parting v0, gMo_wasShip v0, gMo_wasLines v0, gMo_worst v0, gMo_logRow v0, gMo_images v0, gMo_isKept v0)) (p1 := 5) (p2 := 0) (p3 := 99) hB rfl rfl hT hb h0 a (by rw [fe]; rfl) (by rw [fe]; decide) (by rw [m1]; rfl) (by rw [u1]; rfl)) (fun r2 h2 => ⟨_, rfl, h2, rfl, rfl⟩)
  · rw [if_neg (show ¬ r0.1 ≤ 0 from b')]
    exact ⟨_, rfl, tk_stay h0 a, rfl, rfl⟩
theorem tc_4 (hB : TxB n T) (hT : mT g (gMo_text v0) n T) (hb : b ≤ n) (g13 : (g 13).toInt = (b : Int)) : ∃ w8, tcS v0 r1 g 4 = some w8 ∧ tcR T n b 4 1 g v0 w8 := by
  obtain ⟨fe, l0, u0⟩ := lq_4
  have m0 : cLo 4 0 (nV T n b) = 0 := (cLo_c (by decide) _ 0).trans l0
  unfold tcS
  rw [if_neg (show ¬ (4 : Int32) = 0 by decide), if_neg (show ¬ (4 : Int32) = 1 by decide), if_neg (show ¬ (4 : Int32) = 2 by decide), if_neg (show ¬ (4 : Int32) = 3 by decide), if_pos rfl]
  refine bind_ex' (tk_next (c := 4) (j := 0) (w := (0, g, gMo_readTold v0)) (M := (g, gMo_told v0, gMo_postX v0, gMo_postStrong v0, gMo_atRow v0, gMo_heights v0, gMo_ship v0, gMo_lines v0, gMo_text v0, r1.2, gMo_readTold v0, gMo_readX v0, gMo_readStrong v0, gMo_readRow v0, gMo_parting v0, gMo_wasShip v0, gMo_wasLines v0, gMo_worst v0, gMo_logRow v0, gMo_images v0, gMo_isKept v0)) (p1 := 6) (p2 := 0) (p3 := 99) hB rfl rfl hT hb (tk_0 rfl rfl rfl g13) rfl (by rw [fe]; rfl) (by rw [fe]; decide) (by rw [m0]; rfl) (by rw [u0]; rfl)) (fun r0 h0 => ⟨_, rfl, h0, rfl, rfl⟩)
theorem tc_5 (hB : TxB n T) (hT : mT g (gMo_text v0) n T) (hb : b ≤ n) (g13 : (g 13).toInt = (b : Int)) : ∃ w8, tcS v0 r1 g 5 = some w8 ∧ tcR T n b 5 3 g v0 w8 := by
  obtain ⟨fe, l0, u0, l1, u1, l2, u2⟩ := lq_5
  have m0 : cLo 5 0 (nV T n b) = 0 := (cLo_c (by decide) _ 0).trans l0
  have m1 : cLo 5 1 (nV T n b) = 0 := (cLo_c (by decide) _ 0).trans l1
  have m2 : cLo 5 2 (nV T n b) = 0 := (cLo_c (by decide) _ 0).trans l2
  unfold tcS
  rw [if_neg (show ¬ (5 : Int32) = 0 by decide), if_neg (show ¬ (5 : Int32) = 1 by decide), if_neg (show ¬ (5 : Int32) = 2 by decide), if_neg (show ¬ (5 : Int32) = 3 by decide), if_neg (show ¬ (5 : Int32) = 4 by decide), if_pos rfl]
  refine bind_ex' (tk_next (c := 5) (j := 0) (w := (0, g, gMo_readTold v0)) (M := (g, gMo_told v0, gMo_postX v0, gMo_postStrong v0, gMo_atRow v0, gMo_heights v0, gMo_ship v0, gMo_lines v0, gMo_text v0, r1.2, gMo_readTold v0, gMo_readX v0, gMo_readStrong v0, gMo_readRow v0, gMo_parting v0, gMo_wasShip v0, gMo_wasLines v0, gMo_worst v0, gMo_logRow v0, gMo_images v0, gMo_isKept v0)) (p1 := 7) (p2 := 0) (p3 := 50) hB rfl rfl hT hb (tk_0 rfl rfl rfl g13) rfl (by rw [fe]; rfl) (by rw [fe]; decide) (by rw [m0]; rfl) (by rw [u0]; rfl)) (fun r0 h0 => ?_)
  refine bind_ex' (P := fun w => tkS T n b 5 g (gMo_readTold v0) 2 w) ?_ (fun w31 h31 => ?_)
  · rcases stg_le h0.1 with ⟨a, b', -⟩ | ⟨y, a, b', -⟩
    · rw [if_pos (show r0.1 ≤ 0 from b')]
      exact bind_ex' (tk_next (c := 5) (j := 1) (M := (r0.2.1, gMo_told v0, gMo_postX v0, gMo_postStrong v0, gMo_atRow v0, gMo_heights v0, gMo_ship v0, gMo_lines v0, gMo_text v0, r1.2, r0.2.2, gMo_readX v0, gMo_readStrong v0, gMo_readRow v0, gMo_parting v0, gMo_wasShip v0, gMo_wasLines v0, gMo_worst v0, gMo_logRow v0, gMo_images v0, gMo_isKept v0)) (p1 := 8) (p2 := 0) (p3 := 50) hB rfl rfl hT hb h0 a (by rw [fe]; rfl) (by rw [fe]; decide) (by rw [m1]; rfl) (by rw [u1]; rfl)) (fun r2 h2 => ⟨_, rfl, h2⟩)
    · rw [if_neg (show ¬ r0.1 ≤ 0 from b')]
      exact ⟨_, rfl, tk_stay h0 a⟩
  · rcases stg_le h31.1 with ⟨a, b', -⟩ | ⟨y, a, b', -⟩
    · rw [if_pos (show w31.1 ≤ 0 from b')]
      exact bind_ex' (tk_next (c := 5) (j := 2) (M := (w31.2.1, gMo_told v0, gMo_postX v0, gMo_postStrong v0, gMo_atRow v0, gMo_heights v0, gMo_ship v0, gMo_lines v0, gMo_text v0, r1.2, w31.2.2, gMo_readX v0, gMo_readStrong v0, gMo_readRow v0, gMo_parting v0, gMo_wasShip v0, gMo_wasLines v0, gMo_worst v0, gMo_logRow v0, gMo_images v0, gMo_isKept v0)) (p1 := 9) (p2 := 0) (p3 := 50) hB rfl rfl hT hb h31 a (by rw [fe]; rfl) (by rw [fe]; decide) (by rw [m2]; rfl) (by rw [u2]; rfl)) (fun r2 h2 => ⟨_, rfl, h2, rfl, rfl⟩)
    · rw [if_neg (show ¬ w31.1 ≤ 0 from b')]
      exact ⟨_, rfl, tk_stay h31 a, rfl, rfl⟩
theorem tc_6 (hB : TxB n T) (hT : mT g (gMo_text v0) n T) (hb : b ≤ n) (g13 : (g 13).toInt = (b : Int)) : ∃ w8, tcS v0 r1 g 6 = some w8 ∧ tcR T n b 6 1 g v0 w8 := by
  obtain ⟨fe, l0, u0⟩ := lq_6
  have m0 : cLo 6 0 (nV T n b) = 0 := (cLo_c (by decide) _ 0).trans l0
  unfold tcS
  rw [if_neg (show ¬ (6 : Int32) = 0 by decide), if_neg (show ¬ (6 : Int32) = 1 by decide), if_neg (show ¬ (6 : Int32) = 2 by decide), if_neg (show ¬ (6 : Int32) = 3 by decide), if_neg (show ¬ (6 : Int32) = 4 by decide), if_neg (show ¬ (6 : Int32) = 5 by decide), if_pos rfl]
  refine bind_ex' (tk_next (c := 6) (j := 0) (w := (0, g, gMo_readTold v0)) (M := (g, gMo_told v0, gMo_postX v0, gMo_postStrong v0, gMo_atRow v0, gMo_heights v0, gMo_ship v0, gMo_lines v0, gMo_text v0, r1.2, gMo_readTold v0, gMo_readX v0, gMo_readStrong v0, gMo_readRow v0, gMo_parting v0, gMo_wasShip v0, gMo_wasLines v0, gMo_worst v0, gMo_logRow v0, gMo_images v0, gMo_isKept v0)) (p1 := 10) (p2 := 0) (p3 := 99) hB rfl rfl hT hb (tk_0 rfl rfl rfl g13) rfl (by rw [fe]; rfl) (by rw [fe]; decide) (by rw [m0]; rfl) (by rw [u0]; rfl)) (fun r0 h0 => ⟨_, rfl, h0, rfl, rfl⟩)
theorem tc_7 (hB : TxB n T) (hT : mT g (gMo_text v0) n T) (hb : b ≤ n) (g13 : (g 13).toInt = (b : Int)) : ∃ w8, tcS v0 r1 g 7 = some w8 ∧ tcR T n b 7 1 g v0 w8 := by
  obtain ⟨fe, l0, u0⟩ := lq_7
  have m0 : cLo 7 0 (nV T n b) = 1 := (cLo_c (by decide) _ 0).trans l0
  unfold tcS
  rw [if_neg (show ¬ (7 : Int32) = 0 by decide), if_neg (show ¬ (7 : Int32) = 1 by decide), if_neg (show ¬ (7 : Int32) = 2 by decide), if_neg (show ¬ (7 : Int32) = 3 by decide), if_neg (show ¬ (7 : Int32) = 4 by decide), if_neg (show ¬ (7 : Int32) = 5 by decide), if_neg (show ¬ (7 : Int32) = 6 by decide), if_pos rfl]
  refine bind_ex' (tk_next (c := 7) (j := 0) (w := (0, g, gMo_readTold v0)) (M := (g, gMo_told v0, gMo_postX v0, gMo_postStrong v0, gMo_atRow v0, gMo_heights v0, gMo_ship v0, gMo_lines v0, gMo_text v0, r1.2, gMo_readTold v0, gMo_readX v0, gMo_readStrong v0, gMo_readRow v0, gMo_parting v0, gMo_wasShip v0, gMo_wasLines v0, gMo_worst v0, gMo_logRow v0, gMo_images v0, gMo_isKept v0)) (p1 := 11) (p2 := 1) (p3 := 99) hB rfl rfl hT hb (tk_0 rfl rfl rfl g13) rfl (by rw [fe]; rfl) (by rw [fe]; decide) (by rw [m0]; rfl) (by rw [u0]; rfl)) (fun r0 h0 => ⟨_, rfl, h0, rfl, rfl⟩)
theorem tc_8 (hB : TxB n T) (hT : mT g (gMo_text v0) n T) (hb : b ≤ n) (g13 : (g 13).toInt = (b : Int)) : ∃ w8, tcS v0 r1 g 8 = some w8 ∧ tcR T n b 8 1 g v0 w8 := by
  obtain ⟨fe, l0, u0⟩ := lq_8
  have m0 : cLo 8 0 (nV T n b) = 0 := (cLo_c (by decide) _ 0).trans l0
  unfold tcS
  rw [if_neg (show ¬ (8 : Int32) = 0 by decide), if_neg (show ¬ (8 : Int32) = 1 by decide), if_neg (show ¬ (8 : Int32) = 2 by decide), if_neg (show ¬ (8 : Int32) = 3 by decide), if_neg (show ¬ (8 : Int32) = 4 by decide), if_neg (show ¬ (8 : Int32) = 5 by decide), if_neg (show ¬ (8 : Int32) = 6 by decide), if_neg (show ¬ (8 : Int32) = 7 by decide), if_pos rfl]
  refine bind_ex' (tk_next (c := 8) (j := 0) (w := (0, g, gMo_readTold v0)) (M := (g, gMo_told v0, gMo_postX v0, gMo_postStrong v0, gMo_atRow v0, gMo_heights v0, gMo_ship v0, gMo_lines v0, gMo_text v0, r1.2, gMo_readTold v0, gMo_readX v0, gMo_readStrong v0, gMo_readRow v0, gMo_parting v0, gMo_wasShip v0, gMo_wasLines v0, gMo_worst v0, gMo_logRow v0, gMo_images v0, gMo_isKept v0)) (p1 := 12) (p2 := 0) (p3 := 999) hB rfl rfl hT hb (tk_0 rfl rfl rfl g13) rfl (by rw [fe]; rfl) (by rw [fe]; decide) (by rw [m0]; rfl) (by rw [u0]; rfl)) (fun r0 h0 => ⟨_, rfl, h0, rfl, rfl⟩)
theorem tc_all (hB : TxB n T) (hT : mT g (gMo_text v0) n T) (hb : b ≤ n) (g13 : (g 13).toInt = (b : Int)) {c N : Nat} (hc : c ≤ 8) (h1 : c ≠ 1) (hN : (zT_NUMBERS_OF.getD c 0).toInt = (N : Int)) : ∃ w8, tcS v0 r1 g (Int32.ofNat (refC c)) = some w8 ∧ tcR T n b c N g v0 w8 := by
  have e : c = 0 ∨ c = 2 ∨ c = 3 ∨ c = 4 ∨ c = 5 ∨ c = 6 ∨ c = 7 ∨ c = 8 := by omega
  rcases e with rfl | rfl | rfl | rfl | rfl | rfl | rfl | rfl
  · have : N = 2 := by
      have t : (zT_NUMBERS_OF.getD 0 0).toInt = 2 := by decide
      omega
    subst this; exact tc_0 hB hT hb g13
  · have : N = 2 := by
      have t : (zT_NUMBERS_OF.getD 2 0).toInt = 2 := by decide
      omega
    subst this; exact tc_2 hB hT hb g13
  · have : N = 2 := by
      have t : (zT_NUMBERS_OF.getD 3 0).toInt = 2 := by decide
      omega
    subst this; exact tc_3 hB hT hb g13
  · have : N = 1 := by
      have t : (zT_NUMBERS_OF.getD 4 0).toInt = 1 := by decide
      omega
    subst this; exact tc_4 hB hT hb g13
  · have : N = 3 := by
      have t : (zT_NUMBERS_OF.getD 5 0).toInt = 3 := by decide
      omega
    subst this; exact tc_5 hB hT hb g13
  · have : N = 1 := by
      have t : (zT_NUMBERS_OF.getD 6 0).toInt = 1 := by decide
      omega
    subst this; exact tc_6 hB hT hb g13
  · have : N = 1 := by
      have t : (zT_NUMBERS_OF.getD 7 0).toInt = 1 := by decide
      omega
    subst this; exact tc_7 hB hT hb g13
  · have : N = 1 := by
      have t : (zT_NUMBERS_OF.getD 8 0).toInt = 1 := by decide
      omega
    subst this; exact tc_8 hB hT hb g13
theorem tc_end (hB : TxB n T) (hT : mT g (gMo_text v0) n T) (hb : b ≤ n) {c N : Nat} {tak : Bool} {w : Int32 × (Nat → Int32) × (Nat → Int32) × (Nat → Int32) × (Nat → Int32)} (hs : stg T n b c tak g N (w.1, w.2.1)) : ∃ r, tcE v0 r1 w = some r ∧ (r.2.2.2 = w.2.2 ∧ (∀ x, x ≠ 12 → x ≠ 13 → x ≠ 16 → x ≠ 17 → r.2.1 x = g x) ∧ (∀ y, clR T n b c tak N = some y → r.1.toInt = y.1 ∧ (r.2.1 12).toInt = (y.2 : Int)) ∧ (clR T n b c tak N = none → r.1 = 0 ∧ r.2.1 12 = g 12 ∧ (r.2.1 13).toInt = ((nA T n (pN T n b N) + 1 : Nat) : Int))) := by
  unfold tcE
  rcases stg_le hs with ⟨a1, a2, -⟩ | ⟨y, a1, a2, -⟩
  · obtain ⟨-, q2, q3, -⟩ := hs.2.2 a1
    have q2 : w.2.1 12 = g 12 := q2
    have q3 : (w.2.1 13).toInt = (pN T n b N : Int) := q3
    have hf : ∀ x, x ≠ 12 → x ≠ 13 → x ≠ 16 → x ≠ 17 → w.2.1 x = g x := hs.1
    have pb := pN_le T hb N
    rw [if_pos (show w.1 ≤ 0 from a2)]
    refine bind_ex' (m_takeStop (m := (w.2.1, gMo_told v0, gMo_postX v0, gMo_postStrong v0, gMo_atRow v0, gMo_heights v0, gMo_ship v0, gMo_lines v0, gMo_text v0, r1.2, w.2.2.1, w.2.2.2.1, w.2.2.2.2, gMo_readRow v0, gMo_parting v0, gMo_wasShip v0, gMo_wasLines v0, gMo_worst v0, gMo_logRow v0, gMo_images v0, gMo_isKept v0)) (k := pN T n b N) hB ⟨by show (w.2.1 11).toInt = _; rw [hf 11 (by decide) (by decide) (by decide) (by decide)]; exact hT.1, hT.2⟩ q3 pb.2) (fun r28 h28 => ?_)
    obtain ⟨o1, o2⟩ := h28
    have o1 : ∀ x, x ≠ 12 → x ≠ 13 → r28.2 x = w.2.1 x := o1
    rcases o2 with ⟨s0, s1, s2, s3⟩ | ⟨s0, s1, s2⟩
    · have cl := clR_stop a1 s0
      refine ⟨_, rfl, rfl, fun x x1 x2 x3 x4 => (o1 x x1 x2).trans (hf x x1 x2 x3 x4), fun y hy => (by rw [cl] at hy; cases hy), fun _ => ⟨s1, Eq.trans s2 q2, s3⟩⟩
    · have cl := clR_no a1 s0
      refine ⟨_, rfl, rfl, fun x x1 x2 x3 x4 => (o1 x x1 x2).trans (hf x x1 x2 x3 x4), fun y hy => ?_, fun hy => (by rw [cl] at hy; cases hy)⟩
      rw [cl] at hy; cases hy
      exact ⟨by show r28.1.toInt = _; rw [s1]; rfl, s2⟩
  · have cl := clR_some a1
    rw [if_neg (show ¬ w.1 ≤ 0 from a2)]
    refine ⟨_, rfl, rfl, hs.1, fun z hz => ?_, fun hy => (by rw [cl] at hy; cases hy)⟩
    rw [cl] at hz; cases hz
    exact hs.2.1 y a1
end
