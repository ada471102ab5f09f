/-! THE PURE SIDE 65: the new objects -/
theorem m_untold0 (g : Nat → Int32) : ∃ e, lp fB_Mo_init_163 LF (0, g) = some e ∧ ∀ j, j < 13 → e.2 j = zT_UNTOLD.getD j 0 := by
  refine lp_inv (N := 13) (I := fun i t => t.1.toInt = (i : Int) ∧ ∀ j, j < i → t.2 j = zT_UNTOLD.getD j 0) (by decide) ?_ ?_ (i := 0) (by decide) ⟨rfl, fun j hj => absurd hj (by omega)⟩
  · rintro i hi ⟨t, g⟩ ih ⟨a1, a2⟩ go
    have a1 : t.toInt = (i : Int) := a1
    have a2 : ∀ j, j < i → g j = zT_UNTOLD.getD j 0 := a2
    have et : t = Int32.ofNat i := Int32.toInt_inj.mp (by rw [a1, Int32.toInt_ofNat_of_lt (by omega)])
    simp only [fB_Mo_init_163]
    rw [if_neg (lt_lit a1 (N := 13) rfl hi)]
    refine zlet_ex fun z7 h7 => ?_
    have h7 : z7 = zT_UNTOLD.getD i 0 := by rw [h7, et]; exact untold_t ⟨i, hi⟩
    rw [if_pos (inb_ok (by omega) (by omega)), ix_eq a1]
    refine go _ ⟨toInt_succ a1 (by omega), fun j hj => ?_⟩
    show upd g i z7 j = _
    by_cases y : j = i
    · subst y; rw [upd_eq]; exact h7
    · rw [upd_ne _ _ y]; exact a2 j (by omega)
  · rintro ⟨t, g⟩ ih ⟨a1, a2⟩
    have a1 : t.toInt = ((13 : Nat) : Int) := a1
    simp only [fB_Mo_init_163]
    rw [if_pos (ge_lit a1 (N := 13) rfl (by omega))]
    exact ⟨_, rfl, a2⟩
theorem p_init : ∃ r r', f_AL_init d_AL = some r ∧ f_Mo_init d_Mo = some r' ∧ Rel 0 (sAL_ship (sAL_quay d_AL (r.1, fun _ => 0, fun _ => 0)) (r.2.1, r.2.2.1, (r.2.2.2, fun _ => 0, fun _ => 0, fun _ => 0))) (sMo_lines (sMo_ship (sMo_told d_Mo r'.1) r'.2.1) r'.2.2) := by
  unfold f_AL_init f_Mo_init
  obtain ⟨r1, e1, g1, g2⟩ := c_untold (gAL_quay d_AL)
  obtain ⟨r2, e2, g3, g4, g5⟩ := c_first0 (gAL_ship d_AL)
  obtain ⟨q2, e3, g6⟩ := m_untold0 (gMo_told d_Mo)
  rw [e1, e3, Option.bind_some, Option.bind_some, e2, Option.bind_some]
  obtain ⟨r9, e9, g9, g10⟩ := m_begin ((gMo_ints d_Mo), (q2.2), (gMo_postX d_Mo), (gMo_postStrong d_Mo), (gMo_atRow d_Mo), (gMo_heights d_Mo), (gMo_ship d_Mo), (gMo_lines d_Mo), (gMo_text d_Mo), (gMo_said d_Mo), (gMo_readTold d_Mo), (gMo_readX d_Mo), (gMo_readStrong d_Mo), (gMo_readRow d_Mo), (gMo_parting d_Mo), (gMo_wasShip d_Mo), (gMo_wasLines d_Mo), (gMo_worst d_Mo), (gMo_logRow d_Mo), (gMo_images d_Mo), (gMo_isKept d_Mo))
  rw [e9, Option.bind_some]
  obtain ⟨b1, b2⟩ := bd_untold g6
  have c0 := b1 0 (by decide)
  have c1 := b1 1 (by decide)
  have c2 := b1 2 (by decide)
  have c3 := b1 3 (by decide)
  have c4 := b1 4 (by decide)
  have c5 := b1 5 (by decide)
  have c6 := b1 6 (by decide)
  have c7 := b1 7 (by decide)
  have c8 := b1 8 (by decide)
  have c9 := b1 9 (by decide)
  have c10 := b1 10 (by decide)
  have c11 := b1 11 (by decide)
  have c12 := b1 12 (by decide)
  have u12 : upd (fun _ => (0 : Int32)) 12 (-1) 26 = 0 := upd_ne _ _ (by decide)
  refine ⟨_, _, rfl, rfl, (fun j => if j = 13 then 0 else (q2.2 j).toInt), (fun _ => 0), (fun _ => 0), s0I, (fun _ => 0), 0, (fun _ => 0), (fun _ => 0), (fun _ => 0), 0, (fun _ => 0), ⟨⟨⟨c0.1, b2, c1.2⟩, c2, c3, c4, c5, c6, c7, c8, c9, c10, c11, c12, ⟨Int.le_refl 0, by show (0 : Int) ≤ 12; decide⟩, fun k hk => ?_⟩, ⟨fun k hk => ?_, fun k hk => ?_⟩, ⟨fun k hk => ?_, ?_, fun k hk => ?_⟩⟩, ⟨⟨by decide, fun i hi => absurd hi (by omega), fun i j _ hj => absurd hj (by omega)⟩, ⟨rfl, fun i hi => absurd hi (by omega)⟩, ⟨rfl, fun i hi => absurd hi (by omega)⟩⟩, ⟨by decide, fun k hk => absurd hk (by omega), rfl, rfl, fun k hk => absurd hk (by omega)⟩, ⟨RB_s0 (by decide), fun l hl => Or.inl rfl, g3, fun l hl => ⟨?_, fun z => absurd z (show ¬ (0 : Int) = 1 by decide)⟩, g9, fun k hk => ?_, ?_, ?_⟩, ⟨0, by decide, rfl, rfl, fun k hk => absurd hk (by omega)⟩, ⟨0, by decide, rfl, rfl, fun k hk => absurd hk (by omega)⟩, rfl, Or.inl ⟨rfl, rfl⟩, Or.inl ⟨rfl, rfl⟩⟩
  · have hk : (k : Int) < 0 := hk
    omega
  · show (r1 k).toInt = if k = 13 then 0 else (q2.2 k).toInt
    by_cases y : k = 13
    · rw [if_pos y, y, g2]; rfl
    · rw [if_neg y, g1 k (by omega), g6 k (by omega)]
  · have hk : (k : Int) < 0 := hk
    omega
  · show (q2.2 k).toInt = if k = 13 then 0 else (q2.2 k).toInt
    rw [if_neg (by omega)]
  · rfl
  · have hk : (k : Int) < 0 := hk
    omega
  · show (r2.2.2 l).toInt = 0
    rw [g4 l hl]; rfl
  · show (r9.2 k).toInt = 0
    rw [g10 k hk]; rfl
  · show r2.1 12 = upd (fun _ => (0 : Int32)) 12 (-1) 26
    rw [g5, u12]
  · show 0 ≤ (upd (fun _ => (0 : Int32)) 12 (-1) 26).toInt
    rw [u12]; decide
