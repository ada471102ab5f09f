/-! THE PURE SIDE 23: what is sought, tried, judged, side by side -/
section
variable {n : Nat} {v : tAL} {m : tMo}
theorem p_astern (h : Rel n v m) (hn : n ≤ 512) : ∃ r r', f_AL_astern v = some r ∧ f_Mo_astern m = some r' ∧ (r.1 = r'.1 ∧ Rel (n + 1) (sAL_search v ((r.2.1, r.2.2.1, (r.2.2.2.1, r.2.2.2.2.1, r.2.2.2.2.2.1, r.2.2.2.2.2.2.1)), (r.2.2.2.2.2.2.2.1, r.2.2.2.2.2.2.2.2.1, (r.2.2.2.2.2.2.2.2.2.1, r.2.2.2.2.2.2.2.2.2.2.1, r.2.2.2.2.2.2.2.2.2.2.2.1, r.2.2.2.2.2.2.2.2.2.2.2.2)), gSe_other (gAL_search v))) (sMo_wasLines (sMo_wasShip (sMo_parting (sMo_lines (sMo_ship m r'.2.1) r'.2.2.1) r'.2.2.2.1) r'.2.2.2.2.1) r'.2.2.2.2.2)) := by
  have h0 := h
  obtain ⟨q, px, ps, s, L, np, T, E, R, nh, H, h1, h2, h3, h4, h5, h6, h7, h8, h9⟩ := h
  obtain ⟨r, e, k1⟩ := c_astern (v := gAL_search v) (w := gAL_quay v) (u := gAL_ship v) h1.2.1 h1.1 h4.2.2.1 h4.1 (by omega) h4.2.1 h4.2.2.2.1
  obtain ⟨r', e', j1, j2, j3⟩ := m_astern (m := m) h1.2.2 h1.1 h4.2.2.2.2.1 h4.1 (by omega) h4.2.1 h4.2.2.2.2.2.1
  unfold f_AL_astern
  rw [e, e']
  refine ⟨_, _, rfl, rfl, Int32.toInt_inj.mp (leastI_uniq k1 j1), ⟨q, px, ps, s, L, np, T, E, R, nh, H, h1, h2, h3, RelS.mono ⟨h4.1, h4.2.1, h4.2.2.1, h4.2.2.2.1, j2, j3, h4.2.2.2.2.2.2⟩ (by omega), h5, h6, h7, h8.mono (by omega), h9.mono (by omega)⟩⟩
theorem p_off (h : Rel n v m) (hn : n ≤ 512) : ∃ r r', f_AL_off v = some r ∧ f_Mo_off m = some r' ∧ (r.1 = r'.1 ∧ Rel (n + 1) (sAL_search v ((r.2.1, r.2.2.1, (r.2.2.2.1, r.2.2.2.2.1, r.2.2.2.2.2.1, r.2.2.2.2.2.2.1)), (r.2.2.2.2.2.2.2.1, r.2.2.2.2.2.2.2.2.1, (r.2.2.2.2.2.2.2.2.2.1, r.2.2.2.2.2.2.2.2.2.2.1, r.2.2.2.2.2.2.2.2.2.2.2.1, r.2.2.2.2.2.2.2.2.2.2.2.2)), gSe_other (gAL_search v))) (sMo_wasLines (sMo_wasShip (sMo_parting (sMo_lines (sMo_ship m r'.2.1) r'.2.2.1) r'.2.2.2.1) r'.2.2.2.2.1) r'.2.2.2.2.2)) := by
  have h0 := h
  obtain ⟨q, px, ps, s, L, np, T, E, R, nh, H, h1, h2, h3, h4, h5, h6, h7, h8, h9⟩ := h
  obtain ⟨r, e, k1⟩ := c_offs (v := gAL_search v) (w := gAL_quay v) (u := gAL_ship v) h1.2.1 h1.1 h4.2.2.1 h4.1 (by omega) h4.2.1 h4.2.2.2.1
  obtain ⟨r', e', j1, j2, j3⟩ := m_offs (m := m) h1.2.2 h1.1 h4.2.2.2.2.1 h4.1 (by omega) h4.2.1 h4.2.2.2.2.2.1
  unfold f_AL_off
  rw [e, e']
  refine ⟨_, _, rfl, rfl, Int32.toInt_inj.mp (greatI_uniq k1 j1), ⟨q, px, ps, s, L, np, T, E, R, nh, H, h1, h2, h3, RelS.mono ⟨h4.1, h4.2.1, h4.2.2.1, h4.2.2.2.1, j2, j3, h4.2.2.2.2.2.2⟩ (by omega), h5, h6, h7, h8.mono (by omega), h9.mono (by omega)⟩⟩
theorem c_span (p : Int32) : okI (1 ≤ p.toInt ∧ p.toInt ≤ 300) (f_AL_isSearchLength p) := by
  have h := rp.any p
  unfold f_AL_isSearchLength
  by_cases c1 : p < 1
  · have c1' := (h.lt (rp.lit 1 1 (a := 1) rfl rfl)).mp c1
    rw [if_pos c1]; exact Or.inr ⟨by omega, rfl⟩
  · have c1' : ¬ _ := fun g => c1 ((h.lt (rp.lit 1 1 (a := 1) rfl rfl)).mpr g)
    rw [if_neg c1]
    by_cases c2 : 300 < p
    · have c2' := ((rp.lit 300 300 (a := 300) rfl rfl).lt h).mp c2
      rw [if_pos c2]; exact Or.inr ⟨by omega, rfl⟩
    · have c2' : ¬ _ := fun g => c2 (((rp.lit 300 300 (a := 300) rfl rfl).lt h).mpr g)
      rw [if_neg c2]; exact Or.inl ⟨by omega, rfl⟩
theorem m_span (p : Int32) : okI (1 ≤ p.toInt ∧ p.toInt ≤ 300) (f_Mo_isSpan p) := m_inI p (rq.lit 1 1 (a := 1) rfl rfl) (rq.lit 300 300 (a := 300) rfl rfl)
theorem p_wind (h : Rel n v m) (hn : n ≤ 512) (p : Int32) : ∃ r r', f_AL_wind v p = some r ∧ f_Mo_wind m p = some r' ∧ (r.1 = r'.1 ∧ Rel (n + 1) (sAL_search v (gSe_base (gAL_search v), (r.2.1, r.2.2.1, (r.2.2.2.1, r.2.2.2.2.1, r.2.2.2.2.2.1, r.2.2.2.2.2.2.1)), (r.2.2.2.2.2.2.2.1, r.2.2.2.2.2.2.2.2.1, r.2.2.2.2.2.2.2.2.2))) (sMo_wasLines (sMo_wasShip (sMo_parting (sMo_lines (sMo_ship (sMo_told m r'.2.1) r'.2.2.1) r'.2.2.2.1) r'.2.2.2.2.1) r'.2.2.2.2.2.1) r'.2.2.2.2.2.2)) := by
  have h0 := h.next
  obtain ⟨q, px, ps, s, L, np, T, E, R, nh, H, h1, h2, h3, h4, h5, h6, h7, h8, h9⟩ := h
  by_cases c : 1 ≤ p.toInt ∧ p.toInt ≤ 300
  · have hk : p.toInt = (p.toInt.toNat : Int) := by omega
    obtain ⟨r, e, k1⟩ := c_wind (v := gAL_search v) (w := gAL_quay v) (u := gAL_ship v) (y := gAL_plan v) h1.2.1 h1.1 h2.1 h2.2.1 h4.2.2.1 h4.1 (by omega) h4.2.1 h4.2.2.2.1 hk (by omega)
    obtain ⟨r', e', j1, jq, j2, j3⟩ := m_wind (m := m) h1.2.2 h1.1 h2.1 h2.2.2 h4.2.2.2.2.1 h4.1 (by omega) h4.2.1 h4.2.2.2.2.2.1 hk (by omega) (by omega)
    unfold f_AL_wind
    rcases c_span p with ⟨_, g⟩ | ⟨g, _⟩
    · rw [g, if_neg (show ¬ (1 : Int32) = 0 by decide), e, e']
      exact ⟨_, _, rfl, rfl, Int32.toInt_inj.mp (greatI_uniq k1 j1), ⟨q, px, ps, s, L, np, T, E, R, nh, H, ⟨h1.1, h1.2.1, jq⟩, h2, h3, RelS.mono ⟨h4.1, h4.2.1, h4.2.2.1, h4.2.2.2.1, j2, j3, h4.2.2.2.2.2.2⟩ (by omega), h5, h6, h7, h8.mono (by omega), h9.mono (by omega)⟩⟩
    · exact absurd c g
  · unfold f_AL_wind f_Mo_wind
    refine ite2 (c_span p) (m_span p) (fun _ => ⟨_, _, rfl, rfl, rfl, h0⟩) (fun g => absurd g c)
theorem p_gap (h : Rel n v m) (hn : n ≤ 512) (p : Int32) : ∃ r r', f_AL_gap v p = some r ∧ f_Mo_gap m p = some r' ∧ (r.1 = r'.1 ∧ Rel (n + 1) (sAL_search v (gSe_base (gAL_search v), (r.2.1, r.2.2.1, (r.2.2.2.1, r.2.2.2.2.1, r.2.2.2.2.2.1, r.2.2.2.2.2.2.1)), (r.2.2.2.2.2.2.2.1, r.2.2.2.2.2.2.2.2.1, r.2.2.2.2.2.2.2.2.2))) (sMo_wasLines (sMo_wasShip (sMo_parting (sMo_lines (sMo_ship (sMo_told m r'.2.1) r'.2.2.1) r'.2.2.2.1) r'.2.2.2.2.1) r'.2.2.2.2.2.1) r'.2.2.2.2.2.2)) := by
  have h0 := h.next
  obtain ⟨q, px, ps, s, L, np, T, E, R, nh, H, h1, h2, h3, h4, h5, h6, h7, h8, h9⟩ := h
  by_cases c : 1 ≤ p.toInt ∧ p.toInt ≤ 300
  · have hk : p.toInt = (p.toInt.toNat : Int) := by omega
    obtain ⟨r, e, k1⟩ := c_gaps (v := gAL_search v) (w := gAL_quay v) (u := gAL_ship v) (y := gAL_plan v) h1.2.1 h1.1 h2.1 h2.2.1 h4.2.2.1 h4.1 (by omega) h4.2.1 h4.2.2.2.1 hk (by omega)
    obtain ⟨r', e', j1, jq, j2, j3⟩ := m_gaps (m := m) h1.2.2 h1.1 h2.1 h2.2.2 h4.2.2.2.2.1 h4.1 (by omega) h4.2.1 h4.2.2.2.2.2.1 hk (by omega) (by omega)
    unfold f_AL_gap
    rcases c_span p with ⟨_, g⟩ | ⟨g, _⟩
    · rw [g, if_neg (show ¬ (1 : Int32) = 0 by decide), e, e']
      exact ⟨_, _, rfl, rfl, Int32.toInt_inj.mp (gapI_uniq k1 j1), ⟨q, px, ps, s, L, np, T, E, R, nh, H, ⟨h1.1, h1.2.1, jq⟩, h2, h3, RelS.mono ⟨h4.1, h4.2.1, h4.2.2.1, h4.2.2.2.1, j2, j3, h4.2.2.2.2.2.2⟩ (by omega), h5, h6, h7, h8.mono (by omega), h9.mono (by omega)⟩⟩
    · exact absurd c g
  · unfold f_AL_gap f_Mo_gap
    refine ite2 (c_span p) (m_span p) (fun _ => ⟨_, _, rfl, rfl, rfl, h0⟩) (fun g => absurd g c)
theorem p_tug (h : Rel n v m) (hn : n ≤ 512) (p : Int32) : ∃ r r', f_AL_tug v p = some r ∧ f_Mo_tug m p = some r' ∧ (r.1 = r'.1 ∧ Rel (n + 1) (sAL_search v (gSe_base (gAL_search v), (r.2.1, r.2.2.1, (r.2.2.2.1, r.2.2.2.2.1, r.2.2.2.2.2.1, r.2.2.2.2.2.2)), gSe_other (gAL_search v))) (sMo_wasLines (sMo_wasShip (sMo_parting (sMo_lines (sMo_ship m r'.2.1) r'.2.2.1) r'.2.2.2.1) r'.2.2.2.2.1) r'.2.2.2.2.2)) := by
  have h0 := h.next
  obtain ⟨q, px, ps, s, L, np, T, E, R, nh, H, h1, h2, h3, h4, h5, h6, h7, h8, h9⟩ := h
  by_cases c : 1 ≤ p.toInt ∧ p.toInt ≤ 300
  · have hk : p.toInt = (p.toInt.toNat : Int) := by omega
    obtain ⟨r, e, k1⟩ := c_tug (v := gAL_search v) (w := gAL_quay v) (u := gAL_ship v) (y := gAL_plan v) h1.2.1 h1.1 h2.1 h2.2.1 h4.2.2.1 h4.1 (by omega) h4.2.1 h4.2.2.2.1 hk (by omega)
    obtain ⟨r', e', j1, j2, j3⟩ := m_tug (m := m) h1.2.2 h1.1 h2.1 h2.2.2 h4.2.2.2.2.1 h4.1 (by omega) h4.2.1 h4.2.2.2.2.2.1 hk (by omega) (by omega)
    unfold f_AL_tug
    rcases c_span p with ⟨_, g⟩ | ⟨g, _⟩
    · rw [g, if_neg (show ¬ (1 : Int32) = 0 by decide), e, e']
      exact ⟨_, _, rfl, rfl, Int32.toInt_inj.mp (leastI_uniq k1 j1), ⟨q, px, ps, s, L, np, T, E, R, nh, H, h1, h2, h3, RelS.mono ⟨h4.1, h4.2.1, h4.2.2.1, h4.2.2.2.1, j2, j3, h4.2.2.2.2.2.2⟩ (by omega), h5, h6, h7, h8.mono (by omega), h9.mono (by omega)⟩⟩
    · exact absurd c g
  · unfold f_AL_tug f_Mo_tug
    refine ite2 (c_span p) (m_span p) (fun _ => ⟨_, _, rfl, rfl, rfl, h0⟩) (fun g => absurd g c)
theorem isTried_same (p : Int32) : f_AL_isTriedReading p = f_Mo_isTried p := by
  have h := rp.any p
  unfold f_AL_isTriedReading f_Mo_isTried
  have z0 := rp.lit 0 0 (a := (0 : Int32)) rfl rfl
  have z5 := rp.lit 5 5 (a := (5 : Int32)) rfl rfl
  have z9 := rp.lit 9 9 (a := (9 : Int32)) rfl rfl
  have z11 := rp.lit 11 11 (a := (11 : Int32)) rfl rfl
  rw [m_in h.long (rq.lit 0 0 (a := 0) rfl rfl) (rq.lit 5 5 (a := 5) rfl rfl), m_in h.long (rq.lit 9 9 (a := 9) rfl rfl) (rq.lit 11 11 (a := 11) rfl rfl)]
  have one : ¬ (1 : Int32) = 0 := by decide
  by_cases c0 : p < 0
  · have c0' := (h.lt z0).mp c0
    have c9 : p < 9 := (h.lt z9).mpr (by omega)
    rw [if_pos c0, if_pos c9, if_neg (show ¬ ((0 : Int) ≤ p.toInt ∧ p.toInt ≤ 5) by omega), if_pos rfl, if_neg (show ¬ ((9 : Int) ≤ p.toInt ∧ p.toInt ≤ 11) by omega), if_pos rfl]
  · have c0' : ¬ _ := fun g => c0 ((h.lt z0).mpr g)
    rw [if_neg c0]
    by_cases c5 : p ≤ 5
    · have c5' := (h.le z5).mp c5
      rw [if_pos c5, if_pos (show ((0 : Int) ≤ p.toInt ∧ p.toInt ≤ 5) by omega), if_neg one]
    · have c5' : ¬ _ := fun g => c5 ((h.le z5).mpr g)
      rw [if_neg c5, if_neg (show ¬ ((0 : Int) ≤ p.toInt ∧ p.toInt ≤ 5) by omega), if_pos rfl]
      by_cases c9 : p < 9
      · have c9' := (h.lt z9).mp c9
        rw [if_pos c9, if_neg (show ¬ ((9 : Int) ≤ p.toInt ∧ p.toInt ≤ 11) by omega), if_pos rfl]
      · have c9' : ¬ _ := fun g => c9 ((h.lt z9).mpr g)
        rw [if_neg c9]
        by_cases c11 : p ≤ 11
        · have c11' := (h.le z11).mp c11
          rw [if_pos c11, if_pos (show ((9 : Int) ≤ p.toInt ∧ p.toInt ≤ 11) by omega), if_neg one]
        · have c11' : ¬ _ := fun g => c11 ((h.le z11).mpr g)
          rw [if_neg c11, if_neg (show ¬ ((9 : Int) ≤ p.toInt ∧ p.toInt ≤ 11) by omega), if_pos rfl]
theorem isTried_b {p : Int32} (h : ¬ f_Mo_isTried p = 0) : p = 17 ∨ (0 ≤ p.toInt ∧ p.toInt ≤ 15) := by
  unfold f_Mo_isTried at h
  rw [m_in (rp.any p).long (rq.lit 0 0 (a := 0) rfl rfl) (rq.lit 5 5 (a := 5) rfl rfl), m_in (rp.any p).long (rq.lit 9 9 (a := 9) rfl rfl) (rq.lit 11 11 (a := 11) rfl rfl)] at h
  by_cases c1 : (0 : Int) ≤ p.toInt ∧ p.toInt ≤ 5
  · exact Or.inr (by omega)
  · by_cases c2 : (9 : Int) ≤ p.toInt ∧ p.toInt ≤ 11
    · exact Or.inr (by omega)
    · rw [if_neg c1, if_pos rfl, if_neg c2, if_pos rfl] at h
      by_cases c3 : p = 15
      · refine Or.inr ?_
        rw [c3]; decide
      · rw [if_neg c3] at h
        by_cases c4 : p = 17
        · exact Or.inl c4
        · rw [if_neg c4] at h
          exact absurd rfl h
end
