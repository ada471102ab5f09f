/-! THE PURE SIDE 19: put, now, lines, side by side -/
def loI (i : Nat) : Int := [0, 0, -45000, -20000, -20000, -5000, -3, -3, 0].getD i 0
def hiI (i : Nat) : Int := [9999, 30000, 45000, 20000, 20000, 5000, 3, 3, 99].getD i 0
theorem c_tab {i : Nat} (hi : i < 9) : (zT_PUT_LEAST.getD i 0).toInt = loI i ∧ (zT_PUT_MOST.getD i 0).toInt = hiI i := by
  rcases t9 hi with rfl | rfl | rfl | rfl | rfl | rfl | rfl | rfl | rfl <;> decide
theorem m_tab {p : Int32} {i : Nat} (h : p.toInt = (i : Int)) (hi : i < 9) : rq (f_Mo_leastOf p) (loI i) 45000 ∧ rq (f_Mo_mostOf p) (hiI i) 45000 := by
  have e := lit_of h (by omega)
  rcases t9 hi with rfl | rfl | rfl | rfl | rfl | rfl | rfl | rfl | rfl <;> (subst e; exact ⟨rq.lit _ _ rfl rfl, rq.lit _ _ rfl rfl⟩)
theorem put_RB {c : Int} {s : Nat → Int} (hR : RB c s) {i : Nat} (hi : i < 9) {y : Int} (h1 : loI i ≤ y) (h2 : y ≤ hiI i) : RB c (us s i y) := by
  rcases t9 hi with rfl | rfl | rfl | rfl | rfl | rfl | rfl | rfl | rfl <;> (simp only [loI, hiI, List.getD_cons_zero, List.getD_cons_succ] at h1 h2; unfold RB SB at hR ⊢; simp (disch := decide) only [us_eq, us_ne]; omega)
theorem cS.put {f : Nat → Int32} {h : Int64} {s : Nat → Int} (hS : cS f h s) {i : Nat} (hi : i < 9) {z : Int32} {y : Int} (hz : z.toInt = y) : cS (upd f i z) h (us s i y) := by
  obtain ⟨c0, c1, c2, c3, c4, c5, c6, c7, c8, c9, c10, c11, c12⟩ := hS
  rcases t9 hi with rfl | rfl | rfl | rfl | rfl | rfl | rfl | rfl | rfl <;> (refine ⟨?_, ?_, ?_, ?_, ?_, ?_, ?_, ?_, ?_, ?_, ?_, ?_, ?_⟩ <;> (try simp (disch := decide) only [upd_eq, upd_ne, us_eq, us_ne]) <;> assumption)
theorem mS.put {f : Nat → Int64} {s : Nat → Int} (hS : mS f s) {i : Nat} (hi : i < 9) {z : Int64} {y : Int} (hz : z.toInt = y) : mS (vp_updL f i z) (us s i y) := by
  obtain ⟨c0, c1, c2, c3, c4, c5, c6, c7, c8, c9, c10, c11, c12⟩ := hS
  rcases t9 hi with rfl | rfl | rfl | rfl | rfl | rfl | rfl | rfl | rfl <;> (refine ⟨?_, ?_, ?_, ?_, ?_, ?_, ?_, ?_, ?_, ?_, ?_, ?_, ?_⟩ <;> (try simp (disch := decide) only [updL_eq, updL_ne, us_eq, us_ne]) <;> assumption)
theorem mS.at {f : Nat → Int64} {s : Nat → Int} (hS : mS f s) {i : Nat} (hi : i < 13) : (f i).toInt = s i := by
  obtain ⟨c0, c1, c2, c3, c4, c5, c6, c7, c8, c9, c10, c11, c12⟩ := hS
  rcases t13 hi with rfl | rfl | rfl | rfl | rfl | rfl | rfl | rfl | rfl | rfl | rfl | rfl | rfl <;> assumption
theorem cS.at {f : Nat → Int32} {h : Int64} {s : Nat → Int} (hS : cS f h s) {i : Nat} (hi : i < 10) : (f i).toInt = s i := by
  obtain ⟨c0, c1, c2, c3, c4, c5, c6, c7, c8, c9, c10, c11, c12⟩ := hS
  have e : i = 0 ∨ i = 1 ∨ i = 2 ∨ i = 3 ∨ i = 4 ∨ i = 5 ∨ i = 6 ∨ i = 7 ∨ i = 8 ∨ i = 9 := by omega
  rcases e with rfl | rfl | rfl | rfl | rfl | rfl | rfl | rfl | rfl | rfl <;> assumption
section
variable {n : Nat} {v : tAL} {m : tMo}
theorem c_may (p1 p2 : Int32) : okO (∃ i : Nat, i < 9 ∧ p1.toInt = (i : Int) ∧ loI i ≤ p2.toInt ∧ p2.toInt ≤ hiI i) (f_Sh_mayBePut p1 p2) := by
  have hp := rp.any p1
  have hy := rp.any p2
  unfold f_Sh_mayBePut
  by_cases c1 : p1 < 0
  · have c1' := (hp.lt (rp.lit 0 0 (a := 0) rfl rfl)).mp c1
    rw [if_pos c1]; exact Or.inr ⟨fun ⟨i, a, b, _⟩ => by omega, rfl⟩
  · have c1' : ¬ _ := fun g => c1 ((hp.lt (rp.lit 0 0 (a := 0) rfl rfl)).mpr g)
    rw [if_neg c1]
    by_cases c2 : 9 ≤ p1
    · have c2' := ((rp.lit 9 9 (a := 9) rfl rfl).le hp).mp c2
      rw [if_pos c2]; exact Or.inr ⟨fun ⟨i, a, b, _⟩ => by omega, rfl⟩
    · have c2' : ¬ _ := fun g => c2 (((rp.lit 9 9 (a := 9) rfl rfl).le hp).mpr g)
      have hk : p1.toInt = (p1.toInt.toNat : Int) := by omega
      have h9 : p1.toInt.toNat < 9 := by omega
      have ht := c_tab h9
      have hin : inb p1 9 = true := inb_ok (by omega) (by omega)
      rw [if_neg c2, if_pos hin, if_pos hin, ix_eq hk]
      by_cases d1 : p2 < zT_PUT_LEAST.getD p1.toInt.toNat 0
      · rw [if_pos d1]
        rw [Int32.lt_iff_toInt_lt, ht.1] at d1
        refine Or.inr ⟨fun ⟨i, a, b, e1, e2⟩ => ?_, rfl⟩
        have : i = p1.toInt.toNat := by omega
        subst this; omega
      · rw [if_neg d1]
        rw [Int32.lt_iff_toInt_lt, ht.1] at d1
        by_cases d2 : zT_PUT_MOST.getD p1.toInt.toNat 0 < p2
        · rw [if_pos d2]
          rw [Int32.lt_iff_toInt_lt, ht.2] at d2
          refine Or.inr ⟨fun ⟨i, a, b, e1, e2⟩ => ?_, rfl⟩
          have : i = p1.toInt.toNat := by omega
          subst this; omega
        · rw [if_neg d2]
          rw [Int32.lt_iff_toInt_lt, ht.2] at d2
          exact Or.inl ⟨⟨_, h9, hk, by omega, by omega⟩, rfl⟩
theorem p_put (h : Rel n v m) (p1 p2 : Int32) : ∃ r r', f_AL_put v p1 p2 = some r ∧ f_Mo_put m p1 p2 = some r' ∧ (r.1 = r'.1 ∧ Rel (n + 1) (sAL_ship v (sSh_ints (gAL_ship v) r.2)) (sMo_ship m r'.2)) := by
  have h0 := h.next
  obtain ⟨q, px, ps, s, L, np, T, E, R, nh, H, h1, h2, h3, h4, h5, h6, h7, h8, h9⟩ := h.next
  unfold f_AL_put f_Mo_put
  have no : ∃ r r', (some ((-1000000002 : Int32), gSh_ints (gAL_ship v)) = some r ∧ some ((-1000000002 : Int32), gMo_ship m) = some r' ∧ (r.1 = r'.1 ∧ Rel (n + 1) (sAL_ship v (sSh_ints (gAL_ship v) r.2)) (sMo_ship m r'.2))) := ⟨_, _, rfl, rfl, rfl, h0⟩
  rcases c_may p1 p2 with ⟨⟨i, hi, hk, y1, y2⟩, e⟩ | ⟨hno, e⟩
  · rw [e, Option.bind_some, if_neg (show ¬ (1 : Int32) = 0 by decide), Sh_reading_lt _ hk hi, Option.bind_some, Sh_become_lt _ hk hi]
    have hin : inb p1 13 = true := inb_ok (by omega) (by omega)
    obtain ⟨t1, t2⟩ := m_tab hk hi
    rw [m_in (rp.any p1).long (rq.lit 0 0 (a := 0) rfl rfl) (rq.lit 8 8 (a := 8) rfl rfl), if_pos (show (0 : Int) ≤ p1.toInt ∧ p1.toInt ≤ 8 by omega), if_neg (show ¬ (1 : Int32) = 0 by decide), m_in (rp.any p2).long t1 t2, if_pos (show loI i ≤ p2.toInt ∧ p2.toInt ≤ hiI i from ⟨y1, y2⟩), if_neg (show ¬ (1 : Int32) = 0 by decide), if_pos hin]
    simp only [zlet]
    rw [if_pos hin, ix_eq hk]
    have sm : rq (gMo_ship m i) (s i) 50000 := by
      have hb := h4.1.1
      refine ⟨h4.2.2.2.2.1.at (by omega), ?_, ?_⟩ <;> (unfold SB at hb; rcases t9 hi with rfl | rfl | rfl | rfl | rfl | rfl | rfl | rfl | rfl <;> omega)
    refine ⟨_, _, rfl, rfl, Int32.toInt_inj.mp ((h4.2.2.1.at (by omega)).trans (sm.int (by decide)).1.symm), q, px, ps, us s i p2.toInt, L, np, T, E, R, nh, H, h1, h2, h3, ⟨put_RB h4.1 hi y1 y2, h4.2.1, h4.2.2.1.put hi rfl, h4.2.2.2.1, h4.2.2.2.2.1.put hi (by rw [Int32.toInt_toInt64]), h4.2.2.2.2.2.1, ?_, h4.2.2.2.2.2.2.2⟩, h5, h6, h7, h8, h9⟩
    exact (upd_ne _ _ (show 12 ≠ i by omega)).trans h4.2.2.2.2.2.2.1
  · rw [e, Option.bind_some, if_pos rfl]
    rcases m_inI p1 (rq.lit 0 0 (a := 0) rfl rfl) (rq.lit 8 8 (a := 8) rfl rfl) with ⟨f1, f2⟩ | ⟨f1, f2⟩
    · rw [f2, if_neg (show ¬ (1 : Int32) = 0 by decide)]
      have hk : p1.toInt = (p1.toInt.toNat : Int) := by omega
      have h9' : p1.toInt.toNat < 9 := by omega
      obtain ⟨t1, t2⟩ := m_tab hk h9'
      rcases m_inI p2 t1 t2 with ⟨g1, g2⟩ | ⟨g1, g2⟩
      · exact absurd ⟨_, h9', hk, g1.1, g1.2⟩ hno
      · rw [g2, if_pos rfl]; exact no
    · rw [f2, if_pos rfl]; exact no
noncomputable def safeN (q s : Nat → Int) : Int := @ite Int (safeI q s) (Classical.propDecidable _) 1 0
noncomputable def nowI (q s L : Nat → Int) (p : Nat) : Int := if p < 13 then s p else if p = 13 then offI q s 100 else if p = 14 then offI q s (-100) else if p = 15 then safeN q s else cntI L 6
theorem t17 {i : Nat} (h : i < 17) : i < 10 ∨ i = 10 ∨ i = 11 ∨ i = 12 ∨ i = 13 ∨ i = 14 ∨ i = 15 ∨ i = 16 := by omega
theorem c_reading {w : tSh} {q px ps s L : Nat → Int} {c : Int} (hQ : cQ (gAL_quay v) q px ps) (hB : QB q px ps) (hR : RB c s) (hS : cS (gSh_ints w) (gSh_harm w) s) (hL : LB q L) (hl : cL (gLi_fast (gSh_lines w)) (gLi_place (gSh_lines w)) (gLi_post (gSh_lines w)) (gLi_length (gSh_lines w)) L) {p : Int32} {i : Nat} (hp : p.toInt = (i : Int)) (hi : i < 17) : ∃ r, f_AL_readingOf v w p = some r ∧ r.toInt = nowI q s L i := by
  have e := lit_of hp (by omega)
  rcases t17 hi with h | rfl | rfl | rfl | rfl | rfl | rfl | rfl
  · have k : i = 0 ∨ i = 1 ∨ i = 2 ∨ i = 3 ∨ i = 4 ∨ i = 5 ∨ i = 6 ∨ i = 7 ∨ i = 8 ∨ i = 9 := by omega
    have g : f_AL_readingOf v w p = some (gSh_ints w i).toInt64 := by
      rcases k with rfl | rfl | rfl | rfl | rfl | rfl | rfl | rfl | rfl | rfl <;> (subst e; rfl)
    refine ⟨_, g, ?_⟩
    rw [Int32.toInt_toInt64, hS.at h]
    unfold nowI; rw [if_pos (by omega)]
  · subst e; exact ⟨gSh_harm w, rfl, hS.harm⟩
  · subst e; exact ⟨(gSh_ints w 10).toInt64, rfl, by rw [Int32.toInt_toInt64]; exact hS.2.2.2.2.2.2.2.2.2.2.2.1⟩
  · subst e; exact ⟨(gSh_ints w 11).toInt64, rfl, by rw [Int32.toInt_toInt64]; exact hS.2.2.2.2.2.2.2.2.2.2.2.2⟩
  · subst e
    refine ⟨(f_Sh_wayOff w (f_Qu_arm (gAL_quay v) 100)).toInt64, rfl, ?_⟩
    rw [Int32.toInt_toInt64, (c_off hS hR.1 (by decide) hQ hB (rp.lit 100 100 (a := 100) rfl rfl)).1]; rfl
  · have g : f_AL_readingOf v w p = some (f_Sh_wayOff w (f_Qu_arm (gAL_quay v) (-100))).toInt64 := by
      subst e
      unfold f_AL_readingOf
      generalize f_Qu_arm (gAL_quay v) (-100) = z
      rfl
    refine ⟨_, g, ?_⟩
    rw [Int32.toInt_toInt64, (c_off hS hR.1 (by decide) hQ hB (rp.lit (-100) 100 (a := -100) rfl rfl)).1]; rfl
  · have g : f_AL_readingOf v w p = if f_Sh_isSafe w (gAL_quay v) = 0 then some 0 else some 1 := by
      subst e
      unfold f_AL_readingOf
      generalize f_Sh_isSafe w (gAL_quay v) = z
      generalize f_Qu_arm (gAL_quay v) (-100) = z2
      rfl
    rw [g]
    have en : nowI q s L 15 = safeN q s := rfl
    rw [en]
    unfold safeN
    rcases c_safe hQ hB hS hR with ⟨a1, a2⟩ | ⟨a1, a2⟩
    · rw [a2, if_neg (show ¬ (1 : Int32) = 0 by decide), if_pos a1]; exact ⟨_, rfl, rfl⟩
    · rw [a2, if_pos rfl, if_neg a1]; exact ⟨_, rfl, rfl⟩
  · have g : f_AL_readingOf v w p = Option.bind (Option.bind (f_Li_count (gSh_lines w)) (fun r => some r)) (fun r => some r.toInt64) := by
      subst e
      unfold f_AL_readingOf f_Sh_reading
      generalize f_Sh_isSafe w (gAL_quay v) = z
      generalize f_Qu_arm (gAL_quay v) (-100) = z2
      generalize f_Li_count (gSh_lines w) = z3
      rfl
    rw [g]
    obtain ⟨r, er, hr⟩ := c_count hL hl
    rw [er]
    exact ⟨r.toInt64, rfl, by rw [Int32.toInt_toInt64]; exact hr⟩
theorem m_reading {q px ps s L : Nat → Int} {c : Int} (hQ : mQ (gMo_ints m) (gMo_told m) (gMo_postX m) (gMo_postStrong m) q px ps) (hB : QB q px ps) (hR : RB c s) (hS : mS (gMo_ship m) s) (hL : LB q L) (hl : mL (gMo_lines m) L) {p : Int32} {i : Nat} (hp : p.toInt = (i : Int)) (hi : i < 17) : ∃ r, f_Mo_nowOf m p = some r ∧ r.toInt = nowI q s L i := by
  have e := lit_of hp (by omega)
  unfold f_Mo_nowOf
  rw [m_in (rp.any p).long (rq.lit 0 0 (a := 0) rfl rfl) (rq.lit 12 12 (a := 12) rfl rfl)]
  by_cases c : (0 : Int) ≤ p.toInt ∧ p.toInt ≤ 12
  · rw [if_pos c, if_neg (show ¬ (1 : Int32) = 0 by decide), if_pos (inb_ok (by omega) (by omega)), ix_eq hp]
    refine ⟨_, rfl, ?_⟩
    rw [hS.at (by omega)]
    unfold nowI; rw [if_pos (by omega)]
  · rw [if_neg c, if_pos rfl]
    have k : i = 13 ∨ i = 14 ∨ i = 15 ∨ i = 16 := by omega
    rcases k with rfl | rfl | rfl | rfl
    · rw [if_pos (show p = 13 from e)]
      exact ⟨_, rfl, (m_off hS hR.1 (by decide) hQ hB (rp.lit 100 100 (a := 100) rfl rfl)).1⟩
    · rw [if_neg (by rw [e]; decide), if_pos (show p = 14 from e)]
      exact ⟨_, rfl, (m_off hS hR.1 (by decide) hQ hB (rp.lit (-100) 100 (a := -100) rfl rfl)).1⟩
    · rw [if_neg (by rw [e]; decide), if_neg (by rw [e]; decide), if_pos (show p = 15 from e)]
      have en : nowI q s L 15 = safeN q s := rfl
      rw [en]
      unfold safeN
      rcases m_safe hQ hB hS hR with ⟨a1, a2⟩ | ⟨a1, a2⟩
      · rw [a2, if_neg (show ¬ (1 : Int32) = 0 by decide), if_pos a1]; exact ⟨_, rfl, rfl⟩
      · rw [a2, if_pos rfl, if_neg a1]; exact ⟨_, rfl, rfl⟩
    · rw [if_neg (by rw [e]; decide), if_neg (by rw [e]; decide), if_neg (by rw [e]; decide)]
      obtain ⟨r, er, hr⟩ := m_count hL hl
      rw [er]
      exact ⟨r.toInt64, rfl, by rw [Int32.toInt_toInt64]; exact hr⟩
theorem p_now (h : Rel n v m) (p : Int32) : ∃ r r', f_AL_now v p = some r ∧ f_Mo_now m p = some r' ∧ (r = r' ∧ Rel (n + 1) v m) := by
  have h0 := h.next
  obtain ⟨q, px, ps, s, L, np, T, E, R, nh, H, h1, h2, h3, h4, h5, h6, h7, h8, h9⟩ := h.next
  have hp := rp.any p
  unfold f_AL_now f_Mo_now
  rcases m_inI p (rq.lit 0 0 (a := 0) rfl rfl) (rq.lit 16 16 (a := 16) rfl rfl) with ⟨f1, f2⟩ | ⟨f1, f2⟩
  · have hk : p.toInt = (p.toInt.toNat : Int) := by omega
    have c1 : ¬ p < 0 := fun g => by have := (hp.lt (rp.lit 0 0 (a := 0) rfl rfl)).mp g; omega
    have c2 : p ≤ 16 := (hp.le (rp.lit 16 16 (a := 16) rfl rfl)).mpr f1.2
    rw [f2, if_neg (show ¬ (1 : Int32) = 0 by decide), if_neg c1, if_pos c2]
    obtain ⟨r, e, hr⟩ := c_reading (v := v) (w := gAL_ship v) h1.2.1 h1.1 h4.1 h4.2.2.1 h4.2.1 h4.2.2.2.1 hk (by omega)
    obtain ⟨r', e', hr'⟩ := m_reading (m := m) h1.2.2 h1.1 h4.1 h4.2.2.2.2.1 h4.2.1 h4.2.2.2.2.2.1 hk (by omega)
    rw [show f_AL_readingOf_ship v p = f_AL_readingOf v (gAL_ship v) p from rfl, e, e']
    exact ⟨_, _, rfl, rfl, Int64.toInt_inj.mp (hr.trans hr'.symm), h0⟩
  · rw [f2, if_pos rfl]
    by_cases c1 : p < 0
    · rw [if_pos c1]; exact ⟨_, _, rfl, rfl, rfl, h0⟩
    · have c1' : ¬ _ := fun g => c1 ((hp.lt (rp.lit 0 0 (a := 0) rfl rfl)).mpr g)
      have c2 : ¬ p ≤ 16 := fun g => by have := (hp.le (rp.lit 16 16 (a := 16) rfl rfl)).mp g; omega
      rw [if_neg c1, if_neg c2]; exact ⟨_, _, rfl, rfl, rfl, h0⟩
end
