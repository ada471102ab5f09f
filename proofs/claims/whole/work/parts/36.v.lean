/-! THE PURE SIDE 58: plan, side by side -/
section
variable {n : Nat} {v : tAL} {m : tMo}
theorem p_planRead {N : Nat} {T : Nat → Int} (hB : TxB N T) (hc : cT (gAL_text v) N T) (hm : mT (gMo_ints m) (gMo_text m) N T) : ∃ r q2, f_Re_read (gAL_reader v) (gAL_text v) 1 = some r ∧ lp (fB_Mo_plan_17 m) LF (0, (upd (upd (upd (gMo_ints m) 12 (-1)) 13 0) 24 0), (gMo_said m), (gMo_readRow m)) = some q2 ∧ outP (gMo_ints m) (0, r) q2 := by
  unfold f_Re_read
  obtain ⟨q, e1, g1⟩ := c_times0 (gRe_times (gAL_reader v))
  obtain ⟨r8, e2, g2, g3⟩ := c_untold (gRe_quayDraft (gAL_reader v))
  rw [e1, Option.bind_some, e2, Option.bind_some]
  have lf := LF_ge
  have lf2 : (2 : Nat) ^ 40 = 1099511627776 := by decide
  have n300 := hB.1
  obtain ⟨e, e', k1, k2, k3⟩ := lpTwo (B := fB_Re_read_61 (gAL_text v) 1) (B' := fB_Mo_plan_17 m) (I := inP N (gMo_ints m)) (Q := outP (gMo_ints m)) (fun d s s' ih ih' hI go => plan_step hB hc hm d s s' ih ih' hI go) LF (N - 0 + 1) (0, (upd (upd (upd (gRe_ints (gAL_reader v)) 3 0) 4 (-1)) 7 0), r8, (gQu_places (gRe_quayDraft (gAL_reader v))), (gQu_strengths (gRe_quayDraft (gAL_reader v))), (upd (gPl_ints (gRe_planDraft (gAL_reader v))) 0 0), (gPl_seconds (gRe_planDraft (gAL_reader v))), (gPl_engines (gRe_planDraft (gAL_reader v))), (gPl_wheels (gRe_planDraft (gAL_reader v))), (upd (gTi_ints (gRe_tideDraft (gAL_reader v))) 0 0), (gTi_heights (gRe_tideDraft (gAL_reader v))), q.2, (gRe_row (gAL_reader v))) (0, (upd (upd (upd (gMo_ints m) 12 (-1)) 13 0) 24 0), (gMo_said m), (gMo_readRow m)) LF (by omega) (by omega) (by
    refine ⟨fun x x1 x2 x3 x4 x5 x6 => ?_, Or.inr ⟨0, 0, 0, ⟨?_, rfl, ?_, ?_, ⟨by decide, fun i hi => absurd hi (by omega), fun i j _ hj => absurd hj (by omega)⟩, ?_, ?_, fun j hj => absurd hj (by omega)⟩, by omega, by omega, rfl, rfl, ?_, ?_, ?_, g3⟩⟩
    · show upd (upd (upd (gMo_ints m) 12 (-1)) 13 0) 24 0 x = _
      rw [upd_ne _ _ x6, upd_ne _ _ x2, upd_ne _ _ x1]
    · show upd (upd (upd (gRe_ints (gAL_reader v)) 3 0) 4 (-1)) 7 0 3 = 0
      rw [upd_ne _ _ (by decide), upd_ne _ _ (by decide), upd_eq]
    · show upd (upd (upd (gRe_ints (gAL_reader v)) 3 0) 4 (-1)) 7 0 4 = -1
      rw [upd_ne _ _ (by decide), upd_eq]
    · show upd (upd (upd (gMo_ints m) 12 (-1)) 13 0) 24 0 12 = -1
      rw [upd_ne _ _ (by decide), upd_ne _ _ (by decide), upd_eq]
    · show (upd (upd (upd (gMo_ints m) 12 (-1)) 13 0) 24 0 24).toInt = _
      rw [upd_eq]; rfl
    · show (upd (gPl_ints (gRe_planDraft (gAL_reader v))) 0 0 0).toInt = _
      rw [upd_eq]; rfl
    · show (upd (upd (upd (gRe_ints (gAL_reader v)) 3 0) 4 (-1)) 7 0 7).toInt = _
      rw [upd_eq]; rfl
    · show (upd (upd (upd (gMo_ints m) 12 (-1)) 13 0) 24 0 13).toInt = _
      rw [upd_ne _ _ (by decide), upd_eq]; rfl
    · show (q.2 9).toInt = _
      rw [g1 9 (by decide)]; rfl)
  rw [k1, k2]
  exact ⟨_, _, rfl, rfl, k3⟩
end
theorem m_copyP (q2 : Int32 × (Nat → Int32) × Int64 × (Nat → Int32)) (g : Nat → Int32) : ∃ e, lp (fB_Mo_plan_60 q2) LF (0, g) = some e ∧ ∀ j, j < 60 → e.2 j = q2.2.2.2 j := by
  refine lp_inv (N := 60) (I := fun i t => t.1.toInt = (i : Int) ∧ ∀ j, j < i → t.2 j = q2.2.2.2 j) (by decide) ?_ ?_ (i := 0) (by decide) ⟨rfl, fun j hj => absurd hj (by omega)⟩
  · rintro i hi ⟨t, g⟩ ih ⟨a1, a2⟩ go
    have a1 : t.toInt = (i : Int) := a1
    have a2 : ∀ j, j < i → g j = q2.2.2.2 j := a2
    simp only [fB_Mo_plan_60]
    rw [if_neg (lt_lit a1 (N := 60) rfl hi), if_pos (inb_ok (by omega) (by omega)), if_pos (inb_ok (by omega) (by omega)), ix_eq a1]
    refine go _ ⟨toInt_succ a1 (by omega), fun j hj => ?_⟩
    show upd g i (q2.2.2.2 i) j = _
    by_cases y : j = i
    · subst y; exact upd_eq _ _ _
    · rw [upd_ne _ _ y]; exact a2 j (by omega)
  · rintro ⟨t, g⟩ ih ⟨a1, a2⟩
    have a1 : t.toInt = ((60 : Nat) : Int) := a1
    simp only [fB_Mo_plan_60]
    rw [if_pos (ge_lit a1 (N := 60) rfl (by omega))]
    exact ⟨_, rfl, a2⟩
section
variable {n : Nat} {v : tAL} {m : tMo}
theorem p_plan (h : Rel n v m) : ∃ r r', f_AL_plan v = some r ∧ f_Mo_plan m = some r' ∧ (r.1 = r'.1 ∧ Rel (n + 1) (sAL_plan (sAL_reader (sAL_text (sAL_ints v r.2.1) (r.2.2.1, gTe_bytes (gAL_text v))) (r.2.2.2.1, (r.2.2.2.2.1, r.2.2.2.2.2.1, r.2.2.2.2.2.2.1), (r.2.2.2.2.2.2.2.1, r.2.2.2.2.2.2.2.2.1, r.2.2.2.2.2.2.2.2.2.1, r.2.2.2.2.2.2.2.2.2.2.1), (r.2.2.2.2.2.2.2.2.2.2.2.1, r.2.2.2.2.2.2.2.2.2.2.2.2.1), r.2.2.2.2.2.2.2.2.2.2.2.2.2.1, r.2.2.2.2.2.2.2.2.2.2.2.2.2.2.1)) (r.2.2.2.2.2.2.2.2.2.2.2.2.2.2.2.1, r.2.2.2.2.2.2.2.2.2.2.2.2.2.2.2.2.1, r.2.2.2.2.2.2.2.2.2.2.2.2.2.2.2.2.2.1, r.2.2.2.2.2.2.2.2.2.2.2.2.2.2.2.2.2.2)) (sMo_readRow (sMo_said (sMo_atRow (sMo_ints m r'.2.1) r'.2.2.1) r'.2.2.2.1) r'.2.2.2.2)) := by
  obtain ⟨q, px, ps, s, L, np, T, E, R, nh, H, h1, h2, h3, h4, h5, h6, h7, h8, h9⟩ := h.next
  obtain ⟨N, TT, tB, tc, tm⟩ := h5.txt
  obtain ⟨r, q2, e1, e2, fr, out⟩ := p_planRead tB tc tm
  have fr : ∀ x, x ≠ 12 → x ≠ 13 → x ≠ 15 → x ≠ 16 → x ≠ 17 → x ≠ 24 → q2.2.1 x = gMo_ints m x := fr
  have t0 : RelT (upd (gTe_ints (gAL_text v)) 1 0, gTe_bytes (gAL_text v)) (upd q2.2.1 11 0) (gMo_text m) := ⟨0, by decide, by show (upd (gTe_ints (gAL_text v)) 1 0 1).toInt = _; rw [upd_eq]; rfl, by rw [upd_eq]; rfl, fun k hk => absurd hk (by omega)⟩
  unfold f_AL_plan f_AL_readText f_Mo_plan
  rw [e1, e2, Option.bind_some, Option.bind_some]
  rcases out with ⟨F, f1, f2, f3, f4⟩ | ⟨pn, w1, w2, w3, w4, w5, w6, w7, w8⟩
  · have f1 : (r.1 3).toInt = F := f1
    have f4 : r.1 4 = q2.2.1 12 := f4
    have c1 : ¬ r.1 3 = 0 := fun z => by rw [z] at f1; have : (0 : Int32).toInt = 0 := rfl; omega
    have c2 : ¬ q2.1 ≤ 0 := fun z => by rw [Int32.le_iff_toInt_le, f2] at z; have z : F ≤ 0 := z; omega
    rw [if_neg c1, if_neg c2, Option.bind_some, if_pos rfl]
    refine ⟨_, _, rfl, rfl, ?_, ⟨q, px, ps, s, L, np, T, E, R, nh, H, h1.ints ?_, h2.ints ?_, h3.ints ?_, h4.ints ?_, t0, h6.ints ?_ ?_, ?_, h8, h9⟩⟩
    · show -10 - r.1 3 = -10 - q2.1
      rw [show r.1 3 = q2.1 from Int32.toInt_inj.mp (f1.trans f2.symm)]
    · show upd q2.2.1 11 0 1 = _
      rw [upd_ne _ _ (by decide)]; exact fr 1 (by decide) (by decide) (by decide) (by decide) (by decide) (by decide)
    · show upd q2.2.1 11 0 4 = _
      rw [upd_ne _ _ (by decide)]; exact fr 4 (by decide) (by decide) (by decide) (by decide) (by decide) (by decide)
    · show upd q2.2.1 11 0 6 = _
      rw [upd_ne _ _ (by decide)]; exact fr 6 (by decide) (by decide) (by decide) (by decide) (by decide) (by decide)
    · show upd q2.2.1 11 0 26 = _
      rw [upd_ne _ _ (by decide)]; exact fr 26 (by decide) (by decide) (by decide) (by decide) (by decide) (by decide)
    · show upd q2.2.1 11 0 30 = _
      rw [upd_ne _ _ (by decide)]; exact fr 30 (by decide) (by decide) (by decide) (by decide) (by decide) (by decide)
    · show upd (gAL_ints v) 14 (r.1 4) 13 = _
      exact upd_ne _ _ (by decide)
    · show upd (gAL_ints v) 14 (r.1 4) 14 = upd q2.2.1 11 0 12
      rw [upd_eq, upd_ne _ _ (by decide)]; exact f4
  · have w1 : r.1 3 = 0 := w1
    have w3 : r.1 4 = -1 := w3
    have w7 : (r.2.2.2.2.1 0).toInt = (pn : Int) := w7
    have w8 : ∀ j, j < pn → r.2.2.2.2.2.1 j = q2.2.2.2 (3 * j) ∧ r.2.2.2.2.2.2.1 j = q2.2.2.2 (3 * j + 1) ∧ r.2.2.2.2.2.2.2.1 j = q2.2.2.2 (3 * j + 2) := w8
    have p20 : pn ≤ 20 := w5.1
    obtain ⟨q12, e3, g3⟩ := m_copyP q2 (gMo_atRow m)
    rw [if_pos w1, if_pos (show q2.1 ≤ 0 by rw [w2]; decide), Option.bind_some, if_neg (show ¬ (1 : Int32) = 0 by decide), e3, Option.bind_some]
    refine ⟨_, _, rfl, rfl, ?_, ⟨q, px, ps, s, L, pn, fun j => (q2.2.2.2 (3 * j)).toInt, fun j => (q2.2.2.2 (3 * j + 1)).toInt, fun j => (q2.2.2.2 (3 * j + 2)).toInt, nh, H, h1.ints ?_, ⟨w5, ⟨?_, fun k hk => ⟨?_, ?_, ?_⟩⟩, ?_, fun k hk => ⟨?_, ?_, ?_⟩⟩, h3.ints ?_, h4.ints ?_, ?_, h6.ints ?_ ?_, ?_, h8, h9⟩⟩
    · show upd (gPl_ints (gAL_plan v)) 0 (r.2.2.2.2.1 0) 0 = q2.2.1 24
      rw [upd_eq]; exact Int32.toInt_inj.mp (w7.trans w6.symm)
    · show upd (upd q2.2.1 11 0) 4 (q2.2.1 24) 1 = _
      rw [upd_ne _ _ (by decide), upd_ne _ _ (by decide)]; exact fr 1 (by decide) (by decide) (by decide) (by decide) (by decide) (by decide)
    · show (upd (gPl_ints (gAL_plan v)) 0 (r.2.2.2.2.1 0) 0).toInt = _
      rw [upd_eq]; exact w7
    · show (va_cpy r.2.2.2.2.2.1 (gPl_seconds (gAL_plan v)) 0 0 20 k).toInt = _
      unfold va_cpy
      rw [if_pos (by omega), show 0 + (k - 0) = k by omega, (w8 k hk).1]
    · show (va_cpy r.2.2.2.2.2.2.1 (gPl_engines (gAL_plan v)) 0 0 20 k).toInt = _
      unfold va_cpy
      rw [if_pos (by omega), show 0 + (k - 0) = k by omega, (w8 k hk).2.1]
    · show (va_cpy r.2.2.2.2.2.2.2.1 (gPl_wheels (gAL_plan v)) 0 0 20 k).toInt = _
      unfold va_cpy
      rw [if_pos (by omega), show 0 + (k - 0) = k by omega, (w8 k hk).2.2]
    · show (upd (upd q2.2.1 11 0) 4 (q2.2.1 24) 4).toInt = _
      rw [upd_eq]; exact w6
    · show (q12.2 (3 * k)).toInt = _
      rw [g3 _ (by omega)]
    · show (q12.2 (3 * k + 1)).toInt = _
      rw [g3 _ (by omega)]
    · show (q12.2 (3 * k + 2)).toInt = _
      rw [g3 _ (by omega)]
    · show upd (upd q2.2.1 11 0) 4 (q2.2.1 24) 6 = _
      rw [upd_ne _ _ (by decide), upd_ne _ _ (by decide)]; exact fr 6 (by decide) (by decide) (by decide) (by decide) (by decide) (by decide)
    · show upd (upd q2.2.1 11 0) 4 (q2.2.1 24) 26 = _
      rw [upd_ne _ _ (by decide), upd_ne _ _ (by decide)]; exact fr 26 (by decide) (by decide) (by decide) (by decide) (by decide) (by decide)
    · exact t0.ints (by show upd (upd q2.2.1 11 0) 4 (q2.2.1 24) 11 = _; rw [upd_ne _ _ (by decide)])
    · show upd (upd q2.2.1 11 0) 4 (q2.2.1 24) 30 = _
      rw [upd_ne _ _ (by decide), upd_ne _ _ (by decide)]; exact fr 30 (by decide) (by decide) (by decide) (by decide) (by decide) (by decide)
    · show upd (gAL_ints v) 14 (r.1 4) 13 = _
      exact upd_ne _ _ (by decide)
    · show upd (gAL_ints v) 14 (r.1 4) 14 = upd (upd q2.2.1 11 0) 4 (q2.2.1 24) 12
      rw [upd_eq, upd_ne _ _ (by decide), upd_ne _ _ (by decide), w3]; exact w4.symm
end
