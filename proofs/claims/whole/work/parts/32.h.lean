/-! THE PURE SIDE 24: tried, judge, keep, goBack, side by side -/
section
variable {n : Nat} {v : tAL} {m : tMo}
theorem p_tried (h : Rel n v m) (hn : n ≤ 512) (p1 p2 : Int32) : ∃ r r', f_AL_tried v p1 p2 = some r ∧ f_Mo_tried m p1 p2 = some r' ∧ (r.1 = r'.1 ∧ Rel (n + 1) (sAL_trial v (r.2.1, r.2.2.1, (r.2.2.2.1, r.2.2.2.2.1, r.2.2.2.2.2.1, r.2.2.2.2.2.2))) (sMo_wasLines (sMo_wasShip (sMo_parting (sMo_lines (sMo_ship m r'.2.1) r'.2.2.1) r'.2.2.2.1) r'.2.2.2.2.1) r'.2.2.2.2.2)) := by
  have h0 := h.next
  obtain ⟨q, px, ps, s, L, np, T, E, R, nh, H, h1, h2, h3, h4, h5, h6, h7, h8, h9⟩ := h
  have hp := rp.any p1
  unfold f_AL_tried f_Mo_tried
  rcases m_inI p1 (rq.lit 1 1 (a := 1) rfl rfl) (rq.lit 600 600 (a := 600) rfl rfl) with ⟨c, e2⟩ | ⟨c, e2⟩
  · have hk : p1.toInt = (p1.toInt.toNat : Int) := by omega
    have c1 : ¬ p1 < 1 := fun g => by have := (hp.lt (rp.lit 1 1 (a := 1) rfl rfl)).mp g; omega
    have c2 : ¬ 600 < p1 := fun g => by have := ((rp.lit 600 600 (a := 600) rfl rfl).lt hp).mp g; omega
    rw [e2, if_neg (show ¬ (1 : Int32) = 0 by decide), if_neg c1, if_neg c2, isTried_same]
    by_cases d : f_Mo_isTried p2 = 0
    · rw [if_pos d, if_pos d]; exact ⟨_, _, rfl, rfl, rfl, h0⟩
    · rw [if_neg d, if_neg d]
      refine bind2 (c_copy (v0 := gAL_trial v) h4.2.2.1 h4.2.1 h4.2.2.2.1) (m_save m) (fun r5 w5 k5 j5 => ?_)
      refine bind2 (c_plan (v := (r5.1, r5.2.1, (r5.2.2.1, r5.2.2.2.1, r5.2.2.2.2.1, r5.2.2.2.2.2))) (w := gAL_quay v) (u := gAL_plan v) h1.2.1 h1.1 h2.1 h2.2.1 k5.1 h4.1 (by omega) h4.2.1 k5.2.2 hk (by omega)) (m_plan (m := (gMo_ints m, gMo_told m, gMo_postX m, gMo_postStrong m, gMo_atRow m, gMo_heights m, gMo_ship m, gMo_lines m, gMo_text m, gMo_said m, gMo_readTold m, gMo_readX m, gMo_readStrong m, gMo_readRow m, gMo_parting m, w5.1, w5.2, gMo_worst m, gMo_logRow m, gMo_images m, gMo_isKept m)) h1.2.2 h1.1 h2.1 h2.2.2 h4.2.2.2.2.1 h4.1 (by omega) h4.2.1 h4.2.2.2.2.2.1 hk (by omega)) (fun r6 w6 k6 j6 => ?_)
      obtain ⟨b1, b2, -, -⟩ := runI_b h1.1 (plI_RB h2.1) h4.1 h4.2.1 p1.toInt.toNat
      have fin : ∀ (x : Int64) (y : Int64), x = y → ∃ r r', some (x, r6.2.1, r6.2.2.1, r6.2.2.2, r5.2.2.2.1, r5.2.2.2.2.1, r5.2.2.2.2.2) = some r ∧ (Option.bind (f_Mo_back (gMo_ints m, gMo_told m, gMo_postX m, gMo_postStrong m, gMo_atRow m, gMo_heights m, w6.2.1, w6.2.2.1, gMo_text m, gMo_said m, gMo_readTold m, gMo_readX m, gMo_readStrong m, gMo_readRow m, w6.2.2.2, w5.1, w5.2, gMo_worst m, gMo_logRow m, gMo_images m, gMo_isKept m)) (fun (r12 : (Nat → Int64) × (Nat → Int32)) => some (y, r12.1, r12.2, w6.2.2.2, w5.1, w5.2))) = some r' ∧ (r.1 = r'.1 ∧ Rel (n + 1) (sAL_trial v (r.2.1, r.2.2.1, (r.2.2.2.1, r.2.2.2.2.1, r.2.2.2.2.2.1, r.2.2.2.2.2.2))) (sMo_wasLines (sMo_wasShip (sMo_parting (sMo_lines (sMo_ship m r'.2.1) r'.2.2.1) r'.2.2.2.1) r'.2.2.2.2.1) r'.2.2.2.2.2)) := by
        intro x y exy
        obtain ⟨rb, eb, hb⟩ := m_back (gMo_ints m, gMo_told m, gMo_postX m, gMo_postStrong m, gMo_atRow m, gMo_heights m, w6.2.1, w6.2.2.1, gMo_text m, gMo_said m, gMo_readTold m, gMo_readX m, gMo_readStrong m, gMo_readRow m, w6.2.2.2, w5.1, w5.2, gMo_worst m, gMo_logRow m, gMo_images m, gMo_isKept m)
        rw [eb]
        refine ⟨_, _, rfl, rfl, exy, ⟨q, px, ps, s, L, np, T, E, R, nh, H, h1, h2, h3, RelS.mono ⟨h4.1, h4.2.1, h4.2.2.1, h4.2.2.2.1, ?_, ?_, h4.2.2.2.2.2.2⟩ (by omega), h5, h6, h7, h8.mono (by omega), h9.mono (by omega)⟩⟩
        · exact h4.2.2.2.2.1.of_eq (fun k hk => (hb.1 k hk).trans (j5.1 k hk))
        · exact h4.2.2.2.2.2.1.of_eq (fun k hk => (hb.2 k hk).trans (j5.2 k hk))
      by_cases d17 : p2 = 17
      · rw [if_pos d17, if_pos d17]
        obtain ⟨ra, ea, ha⟩ := c_count (v := (r6.2.2.2, r5.2.2.2.1, r5.2.2.2.2.1, r5.2.2.2.2.2)) b2 k6.2.2.2
        obtain ⟨rb, eb, hb⟩ := m_count (m := (gMo_ints m, gMo_told m, gMo_postX m, gMo_postStrong m, gMo_atRow m, gMo_heights m, w6.2.1, w6.2.2.1, gMo_text m, gMo_said m, gMo_readTold m, gMo_readX m, gMo_readStrong m, gMo_readRow m, w6.2.2.2, w5.1, w5.2, gMo_worst m, gMo_logRow m, gMo_images m, gMo_isKept m)) b2 j6.2.2
        rw [ea, eb]
        exact fin _ _ (by rw [show ra = rb from Int32.toInt_inj.mp (ha.trans hb.symm)])
      · rw [if_neg d17, if_neg d17]
        have pb : 0 ≤ p2.toInt ∧ p2.toInt ≤ 15 := by
          rcases isTried_b d with g | g
          · exact absurd g d17
          · exact g
        have hk2 : p2.toInt = (p2.toInt.toNat : Int) := by omega
        obtain ⟨ra, ea, ha⟩ := c_reading (v := (gAL_ints v, gAL_text v, gAL_reader v, gAL_quay v, gAL_plan v, gAL_tide v, gAL_ship v, gAL_images0 v, gAL_images1 v, gAL_kept v, gAL_logged v, (r6.2.1, r6.2.2.1, (r6.2.2.2, r5.2.2.2.1, r5.2.2.2.2.1, r5.2.2.2.2.2)), gAL_search v, gAL_night v, gAL_lettingGo v)) (w := (r6.2.1, r6.2.2.1, (r6.2.2.2, r5.2.2.2.1, r5.2.2.2.2.1, r5.2.2.2.2.2))) h1.2.1 h1.1 b1 k6.2.1 b2 k6.2.2.2 hk2 (by omega)
        obtain ⟨rb, eb, hb⟩ := m_reading (m := (gMo_ints m, gMo_told m, gMo_postX m, gMo_postStrong m, gMo_atRow m, gMo_heights m, w6.2.1, w6.2.2.1, gMo_text m, gMo_said m, gMo_readTold m, gMo_readX m, gMo_readStrong m, gMo_readRow m, w6.2.2.2, w5.1, w5.2, gMo_worst m, gMo_logRow m, gMo_images m, gMo_isKept m)) h1.2.2 h1.1 b1 j6.2.1 b2 j6.2.2 hk2 (by omega)
        rw [show f_AL_readingOf_trial (gAL_ints v, gAL_text v, gAL_reader v, gAL_quay v, gAL_plan v, gAL_tide v, gAL_ship v, gAL_images0 v, gAL_images1 v, gAL_kept v, gAL_logged v, (r6.2.1, r6.2.2.1, (r6.2.2.2, r5.2.2.2.1, r5.2.2.2.2.1, r5.2.2.2.2.2)), gAL_search v, gAL_night v, gAL_lettingGo v) p2 = some ra from ea, eb]
        exact fin _ _ (Int64.toInt_inj.mp (ha.trans hb.symm))
  · rw [e2, if_pos rfl]
    by_cases c1 : p1 < 1
    · rw [if_pos c1]; exact ⟨_, _, rfl, rfl, rfl, h0⟩
    · have c1' : ¬ _ := fun g => c1 ((hp.lt (rp.lit 1 1 (a := 1) rfl rfl)).mpr g)
      have c2 : 600 < p1 := ((rp.lit 600 600 (a := 600) rfl rfl).lt hp).mpr (by omega)
      rw [if_neg c1, if_pos c2]; exact ⟨_, _, rfl, rfl, rfl, h0⟩
/-- entry k of the log is other by more than e -/
def wrongI (q px ps : Nat → Int) (np : Nat) (T E R s L : Nat → Int) (ln : Nat) (lg : Nat → Int) (e : Int) (k : Nat) : Prop := k < ln ∧ (e < (runI q px ps (plI np T E R) s L k).1 0 - lg k ∨ e < lg k - (runI q px ps (plI np T E R) s L k).1 0)
theorem p_judge (h : Rel n v m) (hn : n ≤ 512) (p : Int32) : ∃ r r', f_AL_judge v p = some r ∧ f_Mo_judge m p = some r' ∧ (r.1 = r'.1 ∧ Rel (n + 1) (sAL_trial v (r.2.1, r.2.2.1, (r.2.2.2.1, r.2.2.2.2.1, r.2.2.2.2.2.1, r.2.2.2.2.2.2))) (sMo_wasLines (sMo_wasShip (sMo_parting (sMo_lines (sMo_ship m r'.2.1) r'.2.2.1) r'.2.2.2.1) r'.2.2.2.2.1) r'.2.2.2.2.2)) := by
  have h0 := h.next
  obtain ⟨q, px, ps, s, L, np, T, E, R, nh, H, h1, h2, h3, h4, h5, h6, h7, h8, h9⟩ := h
  obtain ⟨ln, l1, l2, l3, l4⟩ := h6
  have hp := rp.any p
  unfold f_AL_judge f_Mo_judge
  rcases m_inI p (rq.lit 0 0 (a := 0) rfl rfl) (rq.lit 9999 9999 (a := 9999) rfl rfl) with ⟨c, e2⟩ | ⟨c, e2⟩
  · have c1 : ¬ p < 0 := fun g => by have := (hp.lt (rp.lit 0 0 (a := 0) rfl rfl)).mp g; omega
    have c2 : p ≤ 9999 := (hp.le (rp.lit 9999 9999 (a := 9999) rfl rfl)).mpr c.2
    rw [e2, if_neg (show ¬ (1 : Int32) = 0 by decide), if_neg c1, if_pos c2]
    have hp' : rp p p.toInt 9999 := ⟨rfl, by omega, by omega⟩
    refine bind2 (c_copy (v0 := gAL_trial v) h4.2.2.1 h4.2.1 h4.2.2.2.1) (m_save m) (fun r3 w3 k3 j3 => ?_)
    have loop : ∃ e, lp (fB_AL_judge_29 v p r3) LF (0, 0, r3.1, r3.2.1, r3.2.2.1) = some e ∧ (match e with | Sum.inl x => leastI (wrongI q px ps np T E R s L ln (fun k => (gMo_logRow m k).toInt) p.toInt) 60 x.1.toInt | Sum.inr _ => leastI (wrongI q px ps np T E R s L ln (fun k => (gMo_logRow m k).toInt) p.toInt) 60 (-1)) := by
      refine lp_inv (N := ln) (I := fun i t => (∃ p' : Nat, t.1.toInt = (p' : Int) ∧ cN np T (i : Int) p') ∧ t.2.1.toInt = (i : Int) ∧ cS t.2.2.1 t.2.2.2.1 (runI q px ps (plI np T E R) s L i).1 ∧ cL t.2.2.2.2 r3.2.2.2.1 r3.2.2.2.2.1 r3.2.2.2.2.2 (runI q px ps (plI np T E R) s L i).2.1 ∧ ∀ t', t' < i → ¬ wrongI q px ps np T E R s L ln (fun k => (gMo_logRow m k).toInt) p.toInt t') (by omega) ?_ ?_ (i := 0) (by omega) ⟨⟨0, rfl, cN0 h2.1⟩, rfl, k3.1, k3.2.2, fun t' g => absurd g (by omega)⟩
      · rintro i hi ⟨nx, j, f, hh, g⟩ ih ⟨⟨p', an, aN⟩, a2, a3, a5, a6⟩ go
        have a2 : j.toInt = (i : Int) := a2
        have a3 : cS f hh (runI q px ps (plI np T E R) s L i).1 := a3
        obtain ⟨b1, b2, b3, b4⟩ := runI_b h1.1 (plI_RB h2.1) h4.1 h4.2.1 i
        have li := l4 i hi
        have hin : inb j 60 = true := inb_ok (by omega) (by omega)
        simp only [fB_AL_judge_29]
        rw [if_neg (lt_lit a2 l2 hi), if_neg (lt_lit a2 (N := 60) rfl (by omega)), if_pos hin, ix_eq a2, li.1]
        have dx := ((rp.of 15000 a3.1 (by have := b1.1.1; omega) (by have := b1.1.1; omega)).sub (rp.of 99999 (x := (gMo_logRow m i).toInt) rfl li.2.1 li.2.2) (by decide)).abs (by decide)
        by_cases d : zabs (f 0 - gMo_logRow m i) ≤ p
        · have d' := (dx.le hp').mp d
          rw [if_pos d]
          refine bind_ex' (c_steer (v := (f, hh, g, r3.2.2.2.1, r3.2.2.2.2.1, r3.2.2.2.2.2)) h2.1 h2.2.1 a3 an a2 aN) (fun r7 k7 => ?_)
          refine bind_ex' (c_second (v := (r7.2, hh, g, r3.2.2.2.1, r3.2.2.2.2.1, r3.2.2.2.2.2)) k7.2.1 (plI_RB h2.1 i _ _ b1) (by omega) h1.2.1 h1.1 b2 a5) (fun r8 k8 => ?_)
          obtain ⟨p2, e1, e2⟩ := k7.1
          refine go _ ⟨⟨p2, e1, by rw [show ((i + 1 : Nat) : Int) = (i : Int) + 1 by omega]; exact e2⟩, toInt_succ a2 (by omega), k8.2.1, k8.2.2.2, fun t' ht => ?_⟩
          by_cases e : t' = i
          · subst e
            rintro ⟨-, g⟩
            simp only at g
            split at d' <;> omega
          · exact a6 t' (by omega)
        · have d' : ¬ _ := fun g => d ((dx.le hp').mpr g)
          rw [if_neg d]
          refine ⟨_, rfl, Or.inl ⟨i, by omega, a2, ⟨hi, ?_⟩, a6⟩⟩
          show p.toInt < (runI q px ps (plI np T E R) s L i).1 0 - (gMo_logRow m i).toInt ∨ p.toInt < (gMo_logRow m i).toInt - (runI q px ps (plI np T E R) s L i).1 0
          split at d' <;> omega
      · rintro ⟨nx, j, f, hh, g⟩ ih ⟨an, a2, a3, a5, a6⟩
        have a2 : j.toInt = (ln : Int) := a2
        simp only [fB_AL_judge_29]
        rw [if_pos (ge_lit a2 l2 (by omega))]
        exact ⟨_, rfl, Or.inr ⟨rfl, fun t ht g => a6 t g.1 g⟩⟩
    have mloop : ∃ e, lp (fB_Mo_judge_23 m p w3) LF (-1, 0, gMo_ship m, gMo_lines m, gMo_parting m) = some e ∧ leastI (wrongI q px ps np T E R s L ln (fun k => (gMo_logRow m k).toInt) p.toInt) 60 e.1.toInt := by
      refine lp_inv (N := ln) (I := fun i z => z.2.1.toInt = (i : Int) ∧ mS z.2.2.1 (runI q px ps (plI np T E R) s L i).1 ∧ mL z.2.2.2.1 (runI q px ps (plI np T E R) s L i).2.1 ∧ ((z.1.toInt = -1 ∧ ∀ t', t' < i → ¬ wrongI q px ps np T E R s L ln (fun k => (gMo_logRow m k).toInt) p.toInt t') ∨ (∃ t : Nat, t < i ∧ z.1.toInt = (t : Int) ∧ wrongI q px ps np T E R s L ln (fun k => (gMo_logRow m k).toInt) p.toInt t ∧ ∀ t', t' < t → ¬ wrongI q px ps np T E R s L ln (fun k => (gMo_logRow m k).toInt) p.toInt t'))) (by omega) ?_ ?_ (i := 0) (by omega) ⟨rfl, h4.2.2.2.2.1, h4.2.2.2.2.2.1, Or.inl ⟨rfl, fun t' g => absurd g (by omega)⟩⟩
      · rintro i hi ⟨fd, j, f, g, pt⟩ ih ⟨a1, a2, a3, a4⟩ go
        have a1 : j.toInt = (i : Int) := a1
        have a2 : mS f (runI q px ps (plI np T E R) s L i).1 := a2
        obtain ⟨b1, b2, b3, b4⟩ := runI_b h1.1 (plI_RB h2.1) h4.1 h4.2.1 i
        have li := l4 i hi
        have hin : inb j 60 = true := inb_ok (by omega) (by omega)
        simp only [fB_Mo_judge_23]
        rw [if_neg (lt_lit a1 l3 hi)]
        rcases a4 with ⟨e1, e2⟩ | ⟨t, t1, t2, t3, t4⟩
        · have e1 : fd.toInt = -1 := e1
          have c2 : ¬ (0 : Int32) ≤ fd := by rw [Int32.le_iff_toInt_le, e1]; decide
          rw [if_neg c2, if_pos hin, ix_eq a1]
          have dx := m_size ((rq.of 15000 a2.1 (by have := b1.1.1; omega) (by have := b1.1.1; omega)).sub (rp.of (a := gMo_logRow m i) 99999 (x := (gMo_logRow m i).toInt) rfl li.2.1 li.2.2).long (by decide)) (by decide)
          refine zlet_ex fun w12 h12 => ?_
          refine bind_ex' (m_steer' rfl a2 h2.2.2 h2.1 a1) (fun r15 k15 => ?_)
          refine bind_ex' (m_second' rfl k15 a3 h1.2.2 (plI_RB h2.1 i _ _ b1) (by omega) h1.1 b2) (fun r16 k16 => ?_)
          refine go _ ⟨toInt_succ a1 (by omega), k16.2.1, k16.2.2, ?_⟩
          by_cases d : f_Mo_size (f 0 - (gMo_logRow m i).toInt64) ≤ p.toInt64
          · have d' := (dx.le hp'.long).mp d
            rw [if_pos d] at h12
            refine Or.inl ⟨by show w12.toInt = _; rw [h12]; rfl, fun t' ht => ?_⟩
            by_cases e : t' = i
            · subst e
              rintro ⟨-, g⟩
              simp only at g
              split at d' <;> omega
            · exact e2 t' (by omega)
          · have d' : ¬ _ := fun g => d ((dx.le hp'.long).mpr g)
            rw [if_neg d] at h12
            refine Or.inr ⟨i, by omega, by show w12.toInt = _; rw [h12]; exact a1, ⟨hi, ?_⟩, e2⟩
            show p.toInt < (runI q px ps (plI np T E R) s L i).1 0 - (gMo_logRow m i).toInt ∨ p.toInt < (gMo_logRow m i).toInt - (runI q px ps (plI np T E R) s L i).1 0
            split at d' <;> omega
        · have t2 : fd.toInt = (t : Int) := t2
          have c2 : (0 : Int32) ≤ fd := by rw [Int32.le_iff_toInt_le, t2]; show (0 : Int) ≤ _; omega
          rw [if_pos c2]
          exact ⟨_, rfl, Or.inl ⟨t, by omega, t2, t3, t4⟩⟩
      · rintro ⟨fd, j, f, g, pt⟩ ih ⟨a1, a2, a3, a4⟩
        have a1 : j.toInt = (ln : Int) := a1
        simp only [fB_Mo_judge_23]
        rw [if_pos (ge_lit a1 l3 (by omega))]
        refine ⟨_, rfl, ?_⟩
        rcases a4 with ⟨e1, e2⟩ | ⟨t, t1, t2, t3, t4⟩
        · exact Or.inr ⟨e1, fun t ht g => e2 t g.1 g⟩
        · exact Or.inl ⟨t, by omega, t2, t3, t4⟩
    obtain ⟨el, e3, k4⟩ := loop
    obtain ⟨em, e4, j4⟩ := mloop
    obtain ⟨rb, eb, hb⟩ := m_back (gMo_ints m, gMo_told m, gMo_postX m, gMo_postStrong m, gMo_atRow m, gMo_heights m, em.2.2.1, em.2.2.2.1, gMo_text m, gMo_said m, gMo_readTold m, gMo_readX m, gMo_readStrong m, gMo_readRow m, em.2.2.2.2, w3.1, w3.2, gMo_worst m, gMo_logRow m, gMo_images m, gMo_isKept m)
    rw [e3, e4, Option.bind_some, Option.bind_some, eb, Option.bind_some]
    have rel : ∀ (w : tSh), Rel (n + 1) (sAL_trial v w) (sMo_wasLines (sMo_wasShip (sMo_parting (sMo_lines (sMo_ship m rb.1) rb.2) em.2.2.2.2) w3.1) w3.2) := by
      intro w
      refine ⟨q, px, ps, s, L, np, T, E, R, nh, H, h1, h2, h3, RelS.mono ⟨h4.1, h4.2.1, h4.2.2.1, h4.2.2.2.1, ?_, ?_, h4.2.2.2.2.2.2⟩ (by omega), h5, ⟨ln, l1, l2, l3, l4⟩, h7, h8.mono (by omega), h9.mono (by omega)⟩
      · exact h4.2.2.2.2.1.of_eq (fun k hk => (hb.1 k hk).trans (j3.1 k hk))
      · exact h4.2.2.2.2.2.1.of_eq (fun k hk => (hb.2 k hk).trans (j3.2 k hk))
    rcases el with x | x
    · exact ⟨x, _, rfl, rfl, Int32.toInt_inj.mp (leastI_uniq k4 j4), rel _⟩
    · exact ⟨_, _, rfl, rfl, Int32.toInt_inj.mp (leastI_uniq (r := (-1 : Int32).toInt) k4 j4), rel _⟩
  · rw [e2, if_pos rfl]
    by_cases c1 : p < 0
    · rw [if_pos c1]; exact ⟨_, _, rfl, rfl, rfl, h0⟩
    · have c1' : ¬ _ := fun g => c1 ((hp.lt (rp.lit 0 0 (a := 0) rfl rfl)).mpr g)
      have c2 : ¬ p ≤ 9999 := fun g => by have := (hp.le (rp.lit 9999 9999 (a := 9999) rfl rfl)).mp g; omega
      rw [if_neg c1, if_neg c2]; exact ⟨_, _, rfl, rfl, rfl, h0⟩
end
