/-! THE PURE SIDE 36: order, side by side -/
section
variable {n : Nat} {v : tAL} {m : tMo} {q px ps s L F : Nat → Int} {c : Int}
theorem cnt_all (hL : LB q L) : cntI L 6 = 0 ↔ allS L 6 = 0 := by
  have b : ∀ l, l < 6 → 0 ≤ L (4 * l) ∧ L (4 * l) ≤ 1 := fun l hl => by rcases hL l hl with h | h <;> omega
  have e : cntI L 6 = 0 + L (4 * 0) + L (4 * 1) + L (4 * 2) + L (4 * 3) + L (4 * 4) + L (4 * 5) := rfl
  have b0 := b 0 (by decide)
  have b1 := b 1 (by decide)
  have b2 := b 2 (by decide)
  have b3 := b 3 (by decide)
  have b4 := b 4 (by decide)
  have b5 := b 5 (by decide)
  constructor
  · intro z
    refine Classical.byContradiction fun no => ?_
    obtain ⟨l, hl⟩ := (os_pc0 ⟨allS L 6, allS_lt L 6 (by decide)⟩).2.2 no
    have f := allS_sub L l.val l.isLt hl
    have : l.val = 0 ∨ l.val = 1 ∨ l.val = 2 ∨ l.val = 3 ∨ l.val = 4 ∨ l.val = 5 := by omega
    rcases this with h | h | h | h | h | h <;> rw [h] at f <;> omega
  · intro z
    have g : ∀ l, l < 6 → ¬ L (4 * l) = 1 := fun l hl f => by
      have i := allS_in L 6 (by decide) l hl
      rw [z, decide_eq_true hl, decide_eq_true f] at i
      have : inS 0 l = false := Nat.zero_testBit l
      rw [this] at i; cases i
    have g0 := g 0 (by decide)
    have g1 := g 1 (by decide)
    have g2 := g 2 (by decide)
    have g3 := g 3 (by decide)
    have g4 := g 4 (by decide)
    have g5 := g 5 (by decide)
    omega
theorem p_order (h : Rel n v m) (p : Int32) : ∃ r r', f_AL_order v p = some r ∧ f_Mo_order m p = some r' ∧ (r.1 = r'.1 ∧ Rel (n + 1) (sAL_lettingGo v (r.2.1, r.2.2.1, r.2.2.2.1, r.2.2.2.2)) (sMo_worst m r'.2)) := by
  obtain ⟨q, px, ps, s, L, np, T, E, R, nh, H, h1, h2, h3, h4, h5, h6, h7, h8, h9⟩ := h.next
  have rel : ∀ (w : tLg) (f : Nat → Int64), Rel (n + 1) (sAL_lettingGo v w) (sMo_worst m f) := fun w f => ⟨q, px, ps, s, L, np, T, E, R, nh, H, h1, h2, h3, h4, h5, h6, h7, h8, h9⟩
  have hA := allS_lt L 6 (by decide)
  have sA := allS_sub L
  have ca := cnt_all h4.2.1
  obtain ⟨r1, e1, k1⟩ := c_count (v := gSh_lines (gAL_ship v)) h4.2.1 h4.2.2.2.1
  obtain ⟨q2, e2, k2⟩ := m_all (m := m) h4.2.1 h4.2.2.2.2.2.1
  have hAi : (Int32.ofNat (allS L 6)).toInt = (allS L 6 : Int) := Int32.toInt_ofNat_of_lt (by omega)
  unfold f_AL_order f_Mo_order
  rw [e1, e2, Option.bind_some, Option.bind_some]
  have cb := cntI_b h4.2.1 6 (by decide)
  by_cases z : allS L 6 = 0
  · have d1 : r1 = 0 := Int32.toInt_inj.mp (by rw [k1, ca.mpr z]; rfl)
    have d2 : q2.1 = 0 := by rw [k2, z]; rfl
    rw [if_pos d1, if_pos d2]
    exact ⟨_, _, rfl, rfl, rfl, rel _ _⟩
  · have d1 : ¬ r1 = 0 := fun x => z (ca.mp (by rw [← k1, x]; rfl))
    have d2 : ¬ q2.1 = 0 := fun x => z (by
      have : (q2.1).toInt = 0 := by rw [x]; rfl
      rw [k2, hAi] at this; omega)
    rw [if_neg d1, if_neg d2]
    obtain ⟨r3, e3, k3, k4⟩ := c_weigh (gAL_lettingGo v) (w := gAL_quay v) (u := gAL_ship v) h1.2.1 h1.1 h4.2.2.1 h4.1 h4.2.1 h4.2.2.2.1
    obtain ⟨q15, e4, k5⟩ := m_worst (m := m) h1.2.2 h1.1 h4.2.2.2.2.1 h4.1 h4.2.1 h4.2.2.2.2.2.1 hA sA k2 (gMo_worst m)
    have hG := bestI_good (A := allS L 6) h1.1 h4.1 h4.2.1 hA sA
    rw [e3, e4, Option.bind_some, Option.bind_some]
    have bb := hG.1 (allS L 6)
    by_cases d : p = -1
    · rw [if_pos d, if_pos d]
      unfold f_Lg_greatestStrain
      have i1 : gLg_ints (r3.1, r3.2.1, r3.2.2.1, r3.2.2.2) 3 = Int32.ofNat (allS L 6) := k3
      have ain : inb (Int32.ofNat (allS L 6)) 64 = true := inb_ok (by rw [hAi]; omega) (by rw [hAi]; omega)
      rw [i1, k2, if_pos ain, if_pos ain, ix_eq hAi]
      refine ⟨_, _, rfl, rfl, ?_, rel _ _⟩
      have x1 := rp.of 9801000 (k4 _ hA (Nat.and_self _)) (by omega) (by omega)
      have x2 := (rq.of 9801000 (k5 _ hA (Nat.and_self _)) (by omega) (by omega)).int (by decide)
      exact Int32.toInt_inj.mp (x1.1.trans x2.1.symm)
    · rw [if_neg d, if_neg d]
      obtain ⟨r6, e6, k6⟩ := c_lineAt (v := (r3.1, r3.2.1, r3.2.2.1, r3.2.2.2)) hA hG k3 k4 p
      obtain ⟨r39, e7, k7⟩ := m_bits2 hA
      have p6 : pcS (allS L 6) ≤ 6 := (os_pc0 ⟨_, hA⟩).2.1
      rw [e6, Option.bind_some, k2, e7, Option.bind_some]
      have mi := m_inI p (rq.lit 0 0 (a := 0) rfl rfl) ((rp.of 6 k7 (by omega) (by omega)).sub (rp.lit 1 1 (a := 1) rfl rfl) (by decide)).long
      rcases k6 with ⟨j, j1, j2, j3⟩ | ⟨j1, j2⟩
      · rcases mi with ⟨_, g⟩ | ⟨g, _⟩
        · rw [g, if_neg (show ¬ (1 : Int32) = 0 by decide)]
          obtain ⟨q43, e8, k8⟩ := m_seq hA hG k2 k5 j2 j1
          rw [k2] at e8
          rw [e8]
          exact ⟨_, _, rfl, rfl, j3.trans k8.symm, rel _ _⟩
        · exact absurd (by omega) g
      · rcases mi with ⟨g, _⟩ | ⟨_, g⟩
        · exact absurd (by omega) j1
        · rw [g, if_pos rfl]
          exact ⟨_, _, rfl, rfl, j2, rel _ _⟩
end
