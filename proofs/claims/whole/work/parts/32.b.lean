/-! THE PURE SIDE 18: calls, side by side -/
section
variable {n : Nat} {v : tAL} {m : tMo}
theorem p_fault (h : Rel n v m) : f_AL_fault v = f_Mo_fault m ∧ Rel (n + 1) v m := by
  refine ⟨?_, h.next⟩
  obtain ⟨q, px, ps, s, L, np, T, E, R, nh, H, h1, h2, h3, h4, h5, h6, h7, h8, h9⟩ := h
  exact h7
theorem p_clear (h : Rel n v m) : (f_AL_clear v).1 = (f_Mo_clear m).1 ∧ Rel (n + 1) (sAL_ints v (f_AL_clear v).2) (sMo_ints m (f_Mo_clear m).2) := by
  obtain ⟨q, px, ps, s, L, np, T, E, R, nh, H, h1, h2, h3, h4, h5, h6, h7, h8, h9⟩ := h.next
  obtain ⟨ln, l1, l2, l3, l4⟩ := h6
  refine ⟨Int32.toInt_inj.mp (l2.trans l3.symm), q, px, ps, s, L, np, T, E, R, nh, H, h1.ints ?_, h2.ints ?_, h3.ints ?_, h4.ints ?_, h5.ints ?_, ⟨0, by omega, ?_, ?_, fun k hk => absurd hk (by omega)⟩, h7.ints ?_ ?_, h8, h9⟩
  · rfl
  · rfl
  · rfl
  · rfl
  · rfl
  · exact congrArg Int32.toInt (upd_eq _ _ _)
  · exact congrArg Int32.toInt (upd_eq _ _ _)
  · rfl
  · rfl
theorem p_log (h : Rel n v m) (p : Int32) : ∃ r r', f_AL_log v p = some r ∧ f_Mo_log m p = some r' ∧ (r.1 = r'.1 ∧ Rel (n + 1) (sAL_logged (sAL_ints v r.2.1) r.2.2) (sMo_logRow (sMo_ints m r'.2.1) r'.2.2)) := by
  have h0 := h.next
  obtain ⟨q, px, ps, s, L, np, T, E, R, nh, H, h1, h2, h3, h4, h5, h6, h7, h8, h9⟩ := h.next
  obtain ⟨ln, l1, l2, l3, l4⟩ := h6
  have hp := rp.any p
  have la := rp.of 60 l2 (by omega) (by omega)
  have lb := rp.of 60 l3 (by omega) (by omega)
  have hi := m_inI p (rq.lit (-99999) 99999 (a := -99999) rfl rfl) (rq.lit 99999 99999 (a := 99999) rfl rfl)
  have same : ∀ x : Int32, ∃ r r', some (x, gAL_ints v, gAL_logged v) = some r ∧ some (x, gMo_ints m, gMo_logRow m) = some r' ∧ (r.1 = r'.1 ∧ Rel (n + 1) (sAL_logged (sAL_ints v r.2.1) r.2.2) (sMo_logRow (sMo_ints m r'.2.1) r'.2.2)) := fun x => ⟨_, _, rfl, rfl, rfl, h0⟩
  unfold f_AL_log f_Mo_log
  by_cases c1 : p < -99999
  · have c1' := (hp.lt (rp.lit (-99999) 99999 (a := -99999) rfl rfl)).mp c1
    rcases hi with ⟨e1, e2⟩ | ⟨e1, e2⟩
    · omega
    · rw [if_pos c1, e2, if_pos rfl]; exact same _
  · have c1' : ¬ _ := fun g => c1 ((hp.lt (rp.lit (-99999) 99999 (a := -99999) rfl rfl)).mpr g)
    rw [if_neg c1]
    by_cases c2 : p ≤ 99999
    · have c2' := (hp.le (rp.lit 99999 99999 (a := 99999) rfl rfl)).mp c2
      rcases hi with ⟨e1, e2⟩ | ⟨e1, e2⟩
      · rw [if_pos c2, e2, if_neg (show ¬ (1 : Int32) = 0 by decide)]
        by_cases c3 : gAL_ints v 13 < 60
        · have c3' := (la.lt (rp.lit 60 60 (a := 60) rfl rfl)).mp c3
          have c4 : ¬ gMo_ints m 30 = 60 := fun g => by
            have := (lb.eqi (rp.lit 60 60 (a := 60) rfl rfl)).mp g; omega
          have i1 : ix (gAL_ints v 13) = ln := ix_eq l2
          have i2 : ix (gMo_ints m 30) = ln := ix_eq l3
          rw [if_pos c3, if_neg c4, if_pos (inb_ok (by omega) (by omega)), if_pos (inb_ok (by omega) (by omega)), i1, i2]
          simp only [zlet]
          have ka := la.add (rp.lit 1 1 (a := 1) rfl rfl) (by decide)
          have kb := lb.add (rp.lit 1 1 (a := 1) rfl rfl) (by decide)
          refine ⟨_, _, rfl, rfl, Int32.toInt_inj.mp (ka.1.trans kb.1.symm), q, px, ps, s, L, np, T, E, R, nh, H, h1.ints ?_, h2.ints ?_, h3.ints ?_, h4.ints ?_, h5.ints ?_, ⟨ln + 1, by omega, ?_, ?_, fun k hk => ?_⟩, h7.ints ?_ ?_, h8, h9⟩
          · rfl
          · rfl
          · rfl
          · rfl
          · rfl
          · exact (congrArg Int32.toInt (upd_eq _ _ _)).trans (ka.1.trans (by omega))
          · exact (congrArg Int32.toInt (upd_eq _ _ _)).trans (kb.1.trans (by omega))
          · show upd (gAL_logged v) ln p k = upd (gMo_logRow m) ln p k ∧ -99999 ≤ (upd (gMo_logRow m) ln p k).toInt ∧ (upd (gMo_logRow m) ln p k).toInt ≤ 99999
            by_cases e : k = ln
            · subst e; rw [upd_eq, upd_eq]; exact ⟨rfl, e1⟩
            · rw [upd_ne _ _ e, upd_ne _ _ e]; exact l4 k (by omega)
          · rfl
          · rfl
        · have c3' : ¬ _ := fun g => c3 ((la.lt (rp.lit 60 60 (a := 60) rfl rfl)).mpr g)
          have c4 : gMo_ints m 30 = 60 := (lb.eqi (rp.lit 60 60 (a := 60) rfl rfl)).mpr (by omega)
          rw [if_neg c3, if_pos c4]; exact same _
      · omega
    · have c2' : ¬ _ := fun g => c2 ((hp.le (rp.lit 99999 99999 (a := 99999) rfl rfl)).mpr g)
      rcases hi with ⟨e1, e2⟩ | ⟨e1, e2⟩
      · omega
      · rw [if_neg c2, e2, if_pos rfl]; exact same _
theorem p_seed (h : Rel n v m) (p : Int32) : (f_AL_seed v p).1 = (f_Mo_seed m p).1 ∧ Rel (n + 1) (sAL_ship v (sSh_ints (gAL_ship v) (f_AL_seed v p).2)) (sMo_ints m (f_Mo_seed m p).2) := by
  have h0 := h.next
  obtain ⟨q, px, ps, s, L, np, T, E, R, nh, H, h1, h2, h3, h4, h5, h6, h7, h8, h9⟩ := h.next
  unfold f_AL_seed f_Mo_seed
  by_cases c : 0 ≤ p
  · have c' := ((rp.lit 0 0 (a := 0) rfl rfl).le (rp.any p)).mp c
    rw [if_pos c, if_pos c]
    refine ⟨h4.2.2.2.2.2.2.1, q, px, ps, s, L, np, T, E, R, nh, H, h1.ints ?_, h2.ints ?_, h3.ints ?_, ⟨h4.1, h4.2.1, ?_, h4.2.2.2.1, h4.2.2.2.2.1, h4.2.2.2.2.2.1, ?_, ?_⟩, h5.ints ?_, h6.ints ?_ rfl, h7.ints ?_ rfl, h8, h9⟩
    · rfl
    · rfl
    · rfl
    · obtain ⟨c0, c1, c2, c3, c4, c5, c6, c7, c8, c9, c10, c11, c12⟩ := h4.2.2.1
      refine ⟨?_, ?_, ?_, ?_, ?_, ?_, ?_, ?_, ?_, ?_, ?_, ?_, ?_⟩ <;> (try simp (disch := decide) only [upd_ne])
      · exact c0
      · exact c1
      · exact c2
      · exact c3
      · exact c4
      · exact c5
      · exact c6
      · exact c7
      · exact c8
      · exact c9
      · exact c10
      · exact c11
      · exact c12
    · rfl
    · show 0 ≤ (upd (gMo_ints m) 26 p 26).toInt
      rw [upd_eq]; exact c'
    · rfl
    · rfl
    · rfl
  · rw [if_neg c, if_neg c]
    exact ⟨rfl, h0⟩
theorem int_case (p : Int32) (k : Int32) : p = k ∨ ¬ p = k := Decidable.em _
theorem p_told (h : Rel n v m) (p : Int32) : ∃ r', f_Mo_told m p = some r' ∧ (f_AL_told v p = r' ∧ Rel (n + 1) v m) := by
  have h0 := h.next
  obtain ⟨q, px, ps, s, L, np, T, E, R, nh, H, h1, h2, h3, h4, h5, h6, h7, h8, h9⟩ := h
  obtain ⟨tn, t1, t2, t3, t4⟩ := h5
  have hp := rp.any p
  have e13 : gQu_ints (gAL_quay v) 13 = gMo_ints m 1 := Int32.toInt_inj.mp ((h1.2.1.1 13 (by decide)).trans h1.2.2.2.1.symm)
  have e14 : gPl_ints (gAL_plan v) 0 = gMo_ints m 4 := Int32.toInt_inj.mp (h2.2.1.1.trans h2.2.2.1.symm)
  have e15 : gTi_ints (gAL_tide v) 0 = gMo_ints m 6 := Int32.toInt_inj.mp (h3.2.2.1.trans h3.2.2.2.1.symm)
  have e16 : gTe_ints (gAL_text v) 1 = gMo_ints m 11 := Int32.toInt_inj.mp (t2.trans t3.symm)
  unfold f_AL_told f_Mo_told
  rcases m_inI p (rq.lit 0 0 (a := 0) rfl rfl) (rq.lit 12 12 (a := 12) rfl rfl) with ⟨f1, f2⟩ | ⟨f1, f2⟩
  · have hk : p.toInt = (p.toInt.toNat : Int) := by omega
    have c1 : ¬ p < 0 := fun g => by have := (hp.lt (rp.lit 0 0 (a := 0) rfl rfl)).mp g; omega
    have c2 : ¬ 13 ≤ p := fun g => by have := ((rp.lit 13 13 (a := 13) rfl rfl).le hp).mp g; omega
    rw [f2, if_neg (show ¬ (1 : Int32) = 0 by decide), if_neg c1, if_neg c2, if_pos (inb_ok (by omega) (by omega)), ix_eq hk, Qu_number_lt _ hk (by omega)]
    exact ⟨_, rfl, Int32.toInt_inj.mp ((h1.2.1.1 _ (by omega)).trans (h1.2.2.1 _ (by omega)).symm), h0⟩
  · rw [f2, if_pos rfl]
    have key : ∀ x : Int32, (if p < 0 then x else if 13 ≤ p then x else f_Qu_number (gAL_quay v) p) = x := by
      intro x
      by_cases c1 : p < 0
      · rw [if_pos c1]
      · have c1' : ¬ _ := fun g => c1 ((hp.lt (rp.lit 0 0 (a := 0) rfl rfl)).mpr g)
        rw [if_neg c1, if_pos (((rp.lit 13 13 (a := 13) rfl rfl).le hp).mpr (by omega))]
    rw [key, e13, e14, e15, e16]
    by_cases d13 : p = 13
    · rw [if_pos d13, if_pos d13]; exact ⟨_, rfl, rfl, h0⟩
    · rw [if_neg d13, if_neg d13]
      by_cases d14 : p = 14
      · rw [if_pos d14, if_pos d14]; exact ⟨_, rfl, rfl, h0⟩
      · rw [if_neg d14, if_neg d14]
        by_cases d15 : p = 15
        · rw [if_pos d15, if_pos d15]; exact ⟨_, rfl, rfl, h0⟩
        · rw [if_neg d15, if_neg d15]
          by_cases d16 : p = 16
          · rw [if_pos d16, if_pos d16]; exact ⟨_, rfl, rfl, h0⟩
          · rw [if_neg d16, if_neg d16]; exact ⟨_, rfl, rfl, h0⟩
theorem p_post (h : Rel n v m) (p1 p2 : Int32) : ∃ r r', f_AL_post v p1 p2 = some r ∧ f_Mo_post m p1 p2 = some r' ∧ (r = r' ∧ Rel (n + 1) v m) := by
  have h0 := h.next
  obtain ⟨q, px, ps, s, L, np, T, E, R, nh, H, h1, h2, h3, h4, h5, h6, h7, h8, h9⟩ := h
  have b13 := h1.1.2.2.2.2.2.2.2.2.2.2.2.2.1
  unfold f_AL_post f_Mo_post
  refine ite2 (c_hasPost h1.2.1 h1.1 p1) (m_isPost h1.2.2 h1.1 p1) (fun _ => ⟨_, _, rfl, rfl, rfl, h0⟩) (fun hA => ?_)
  have hk : p1.toInt = (p1.toInt.toNat : Int) := by omega
  have hin : inb p1 12 = true := inb_ok (by omega) (by omega)
  by_cases c0 : p2 = 0
  · rw [if_pos c0, if_pos c0, if_pos hin, ix_eq hk]
    obtain ⟨e, he, hr⟩ := h1.2.1.place h1.1 (k := p1) rfl hA.1 hA.2
    rw [he]
    exact ⟨_, _, rfl, rfl, Int32.toInt_inj.mp (hr.1.trans (h1.2.2.2.2 _ (by omega)).1.symm), h0⟩
  · rw [if_neg c0, if_neg c0]
    by_cases c1 : p2 = 1
    · rw [if_pos c1, if_pos c1, if_pos hin, ix_eq hk]
      obtain ⟨e, he, hr⟩ := h1.2.1.strength h1.1 (k := p1) rfl hA.1 hA.2
      rw [he]
      exact ⟨_, _, rfl, rfl, Int32.toInt_inj.mp (hr.1.trans (h1.2.2.2.2 _ (by omega)).2.symm), h0⟩
    · rw [if_neg c1, if_neg c1]; exact ⟨_, _, rfl, rfl, rfl, h0⟩
/-- the ship changes, all else stays -/
theorem Rel.ship {n : Nat} {v : tAL} {m : tMo} {q px ps : Nat → Int} {np : Nat} {T E R : Nat → Int} {nh : Nat} {H : Nat → Int} {w : tSh} {f : Nat → Int64} {g pt : Nat → Int32} {s L : Nat → Int}
    (h1 : RelQ q px ps (gAL_quay v) (gMo_ints m) (gMo_told m) (gMo_postX m) (gMo_postStrong m)) (h2 : RelP np T E R (gAL_plan v) (gMo_ints m) (gMo_atRow m)) (h3 : RelH nh H (gAL_tide v) (gMo_ints m) (gMo_heights m)) (h5 : RelT (gAL_text v) (gMo_ints m) (gMo_text m)) (h6 : RelL (gAL_ints v) (gAL_logged v) (gMo_ints m) (gMo_logRow m)) (h7 : RelF (gAL_ints v) (gMo_ints m)) (h8 : RelI (600 * (n : Int)) q (gAL_kept v 0) (gAL_images0 v) (gMo_isKept m 0) (gMo_images m) 0) (h9 : RelI (600 * (n : Int)) q (gAL_kept v 1) (gAL_images1 v) (gMo_isKept m 1) (gMo_images m) 1)
    (h4 : RelS (600 * (n : Int)) q s L w f g (gMo_ints m)) : Rel n (sAL_ship v w) (sMo_parting (sMo_lines (sMo_ship m f) g) pt) := ⟨q, px, ps, s, L, np, T, E, R, nh, H, h1, h2, h3, h4, h5, h6, h7, h8, h9⟩
theorem p_go (h : Rel n v m) (hn : n ≤ 512) (p : Int32) : ∃ r r', f_AL_go v p = some r ∧ f_Mo_go m p = some r' ∧ (r.1 = r'.1 ∧ Rel (n + 1) (sAL_ship v (r.2.1, r.2.2.1, (r.2.2.2, gLi_place (gSh_lines (gAL_ship v)), gLi_post (gSh_lines (gAL_ship v)), gLi_length (gSh_lines (gAL_ship v))))) (sMo_parting (sMo_lines (sMo_ship m r'.2.1) r'.2.2.1) r'.2.2.2)) := by
  have h0 := h.next
  obtain ⟨q, px, ps, s, L, np, T, E, R, nh, H, h1, h2, h3, h4, h5, h6, h7, h8, h9⟩ := h
  have hp := rp.any p
  by_cases c : 1 ≤ p.toInt ∧ p.toInt ≤ 600
  · have hk : p.toInt = (p.toInt.toNat : Int) := by omega
    obtain ⟨r, e, k1, k2, k3, k4⟩ := c_go (v := v) h1.2.1 h1.1 h4.2.2.1 h4.1 (by omega) h4.2.1 h4.2.2.2.1 hk (by omega) (by omega)
    obtain ⟨r', e', j1, j2, j3⟩ := m_go (m := m) h1.2.2 h1.1 h4.2.2.2.2.1 h4.1 (by omega) h4.2.1 h4.2.2.2.2.2.1 hk (by omega) (by omega)
    obtain ⟨b1, b2, -, -⟩ := runI_b h1.1 noI_RB h4.1 h4.2.1 p.toInt.toNat
    refine ⟨r, r', e, e', Int32.toInt_inj.mp (k1.trans j1.symm), Rel.ship h1 h2 h3 h5 h6 h7 (h8.mono (by omega)) (h9.mono (by omega)) ⟨b1.mono (by omega), b2, k2, k4, j2, j3, k3.trans h4.2.2.2.2.2.2.1, h4.2.2.2.2.2.2.2⟩⟩
  · unfold f_AL_go f_Mo_go
    rcases m_inI p (rq.lit 1 1 (a := 1) rfl rfl) (rq.lit 600 600 (a := 600) rfl rfl) with ⟨e1, e2⟩ | ⟨e1, e2⟩
    · exact absurd e1 c
    · rw [e2, if_pos rfl]
      by_cases c1 : p < 1
      · rw [if_pos c1]; exact ⟨_, _, rfl, rfl, rfl, h0⟩
      · have c1' : ¬ _ := fun g => c1 ((hp.lt (rp.lit 1 1 (a := 1) rfl rfl)).mpr g)
        have c2 : ¬ p ≤ 600 := fun g => by have := (hp.le (rp.lit 600 600 (a := 600) rfl rfl)).mp g; omega
        rw [if_neg c1, if_neg c2]; exact ⟨_, _, rfl, rfl, rfl, h0⟩
theorem p_follow (h : Rel n v m) (hn : n ≤ 512) (p : Int32) : ∃ r r', f_AL_follow v p = some r ∧ f_Mo_follow m p = some r' ∧ (r.1 = r'.1 ∧ Rel (n + 1) (sAL_ship v (r.2.1, r.2.2.1, (r.2.2.2, gLi_place (gSh_lines (gAL_ship v)), gLi_post (gSh_lines (gAL_ship v)), gLi_length (gSh_lines (gAL_ship v))))) (sMo_parting (sMo_lines (sMo_ship m r'.2.1) r'.2.2.1) r'.2.2.2)) := by
  have h0 := h.next
  obtain ⟨q, px, ps, s, L, np, T, E, R, nh, H, h1, h2, h3, h4, h5, h6, h7, h8, h9⟩ := h
  have hp := rp.any p
  unfold f_AL_follow f_Mo_follow
  rcases m_inI p (rq.lit 1 1 (a := 1) rfl rfl) (rq.lit 600 600 (a := 600) rfl rfl) with ⟨c, e2⟩ | ⟨c, e2⟩
  · have hk : p.toInt = (p.toInt.toNat : Int) := by omega
    have c1 : ¬ p < 1 := fun g => by have := (hp.lt (rp.lit 1 1 (a := 1) rfl rfl)).mp g; omega
    have c2 : p ≤ 600 := (hp.le (rp.lit 600 600 (a := 600) rfl rfl)).mpr c.2
    rw [e2, if_neg (show ¬ (1 : Int32) = 0 by decide), if_neg c1, if_pos c2]
    obtain ⟨r, e, k1, k2, k3, k4⟩ := c_plan (v := gAL_ship v) (w := gAL_quay v) (u := gAL_plan v) h1.2.1 h1.1 h2.1 h2.2.1 h4.2.2.1 h4.1 (by omega) h4.2.1 h4.2.2.2.1 hk (by omega)
    obtain ⟨r', e', j1, j2, j3⟩ := m_plan (m := m) h1.2.2 h1.1 h2.1 h2.2.2 h4.2.2.2.2.1 h4.1 (by omega) h4.2.1 h4.2.2.2.2.2.1 hk (by omega)
    obtain ⟨b1, b2, -, -⟩ := runI_b h1.1 (plI_RB h2.1) h4.1 h4.2.1 p.toInt.toNat
    rw [e, e']
    exact ⟨_, _, rfl, rfl, Int32.toInt_inj.mp (k1.trans j1.symm), Rel.ship h1 h2 h3 h5 h6 h7 (h8.mono (by omega)) (h9.mono (by omega)) ⟨b1.mono (by omega), b2, k2, k4, j2, j3, k3.trans h4.2.2.2.2.2.2.1, h4.2.2.2.2.2.2.2⟩⟩
  · rw [e2, if_pos rfl]
    by_cases c1 : p < 1
    · rw [if_pos c1]; exact ⟨_, _, rfl, rfl, rfl, h0⟩
    · have c1' : ¬ _ := fun g => c1 ((hp.lt (rp.lit 1 1 (a := 1) rfl rfl)).mpr g)
      have c2 : ¬ p ≤ 600 := fun g => by have := (hp.le (rp.lit 600 600 (a := 600) rfl rfl)).mp g; omega
      rw [if_neg c1, if_neg c2]; exact ⟨_, _, rfl, rfl, rfl, h0⟩
end
