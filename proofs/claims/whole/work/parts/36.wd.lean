/-! THE PURE SIDE 62: a clause of the quay, the reference -/
theorem refC_b : ∀ c : Fin 9, (c.val ≠ 1 → ¬ Int32.ofNat (refC c.val) = 1) ∧ (0 : Int32) ≤ Int32.ofNat (refC c.val) ∧ refC c.val < 24 := by decide +kernel
theorem refC_i : ∀ c d : Fin 9, refC c.val = refC d.val → c.val = d.val := by decide +kernel
section
variable {n : Nat} {T : Nat → Int} {m : tMo}
abbrev tQ := Int32 × (Nat → Int32) × Int64 × (Nat → Int32) × (Nat → Int32) × (Nat → Int32)
/-- the reference's ints outside a reading -/
def frQ (g f : Nat → Int32) : Prop := ∀ x, x ≠ 12 → x ≠ 13 → x ≠ 15 → x ≠ 16 → x ≠ 17 → x ≠ 19 → x ≠ 22 → f x = g x
theorem tc_None (hB : TxB n T) (h : mT (gMo_ints m) (gMo_text m) n T) {e : Nat} (hj : (gMo_ints m 13).toInt = (e : Int)) (he : e ≤ n) (hid : scan (isB T) n e = e) (hX : ∀ c, c ≤ 8 → ¬ wn T e (scan (isL T) n e - e) = wc c) : ∃ r : tQ, f_Mo_takeClause m = some r ∧ (frQ (gMo_ints m) r.2.1 ∧ r.1 = 1 ∧ (r.2.1 12).toInt = (e : Int)) := by
  rw [tc_eq]
  refine bind_ex' (m_readWord hB h hj he) (fun r1 h1 => ?_)
  rw [hid] at h1
  obtain ⟨u1, u2, u3, u4⟩ := h1
  refine zlet_ex fun z2 hz => ?_
  rcases m_clauseOf (m := ((r1.1), (gMo_told m), (gMo_postX m), (gMo_postStrong m), (gMo_atRow m), (gMo_heights m), (gMo_ship m), (gMo_lines m), (gMo_text m), (r1.2), (gMo_readTold m), (gMo_readX m), (gMo_readStrong m), (gMo_readRow m), (gMo_parting m), (gMo_wasShip m), (gMo_wasLines m), (gMo_worst m), (gMo_logRow m), (gMo_images m), (gMo_isKept m))) u4 with ⟨c, c1, c2, -⟩ | ⟨-, c1⟩
  · exact absurd c2 (hX c c1)
  · rw [c1] at hz
    rw [if_neg (show ¬ 0 ≤ z2 by rw [hz]; decide)]
    refine ⟨_, rfl, fun x x1 x2 x3 _ _ _ _ => ?_, rfl, ?_⟩
    · show upd r1.1 12 (r1.1 13) x = _
      rw [upd_ne _ _ x1]; exact u3 x x2 x3
    · show (upd r1.1 12 (r1.1 13) 12).toInt = _
      rw [upd_eq]; exact u1
theorem tc_Full (hB : TxB n T) (h : mT (gMo_ints m) (gMo_text m) n T) {e c : Nat} (hj : (gMo_ints m 13).toInt = (e : Int)) (he : e ≤ n) (hid : scan (isB T) n e = e) (hc : c ≤ 8) (hX : wn T e (scan (isL T) n e - e) = wc c) (hF : (c = 1 ∧ gMo_ints m 19 = 12) ∨ (c ≠ 1 ∧ tb (gMo_ints m 22) (refC c) = true)) : ∃ r : tQ, f_Mo_takeClause m = some r ∧ (frQ (gMo_ints m) r.2.1 ∧ r.1 = 3 ∧ (r.2.1 12).toInt = (e : Int)) := by
  rw [tc_eq]
  refine bind_ex' (m_readWord hB h hj he) (fun r1 h1 => ?_)
  rw [hid] at h1
  obtain ⟨u1, u2, u3, u4⟩ := h1
  refine zlet_ex fun z2 hz => ?_
  obtain ⟨b1, b2, b3⟩ := refC_b ⟨c, by omega⟩
  have b1 : c ≠ 1 → ¬ Int32.ofNat (refC c) = 1 := b1
  have b2 : (0 : Int32) ≤ Int32.ofNat (refC c) := b2
  have b3 : refC c < 24 := b3
  rcases m_clauseOf (m := ((r1.1), (gMo_told m), (gMo_postX m), (gMo_postStrong m), (gMo_atRow m), (gMo_heights m), (gMo_ship m), (gMo_lines m), (gMo_text m), (r1.2), (gMo_readTold m), (gMo_readX m), (gMo_readStrong m), (gMo_readRow m), (gMo_parting m), (gMo_wasShip m), (gMo_wasLines m), (gMo_worst m), (gMo_logRow m), (gMo_images m), (gMo_isKept m))) u4 with ⟨c', c1, c2, c3⟩ | ⟨no, -⟩
  · have ec : c' = c := wc_ne ⟨c', by omega⟩ ⟨c, by omega⟩ (c2.symm.trans hX)
    subst ec
    rw [c3] at hz
    rw [if_pos (show 0 ≤ z2 by rw [hz]; exact b2)]
    have fin : ∃ r : tQ, (zlet (f_Mo_fails ((r1.1), (gMo_told m), (gMo_postX m), (gMo_postStrong m), (gMo_atRow m), (gMo_heights m), (gMo_ship m), (gMo_lines m), (gMo_text m), (r1.2), (gMo_readTold m), (gMo_readX m), (gMo_readStrong m), (gMo_readRow m), (gMo_parting m), (gMo_wasShip m), (gMo_wasLines m), (gMo_worst m), (gMo_logRow m), (gMo_images m), (gMo_isKept m)) 3 ((r1.1) 13)) (fun (r6 : Int32 × (Nat → Int32)) => (some ((r6.1), (r6.2), (r1.2), (gMo_readTold m), (gMo_readX m), (gMo_readStrong m))))) = some r ∧ (frQ (gMo_ints m) r.2.1 ∧ r.1 = 3 ∧ (r.2.1 12).toInt = (e : Int)) := by
      refine ⟨_, rfl, fun x x1 x2 x3 _ _ _ _ => ?_, rfl, ?_⟩
      · show upd r1.1 12 (r1.1 13) x = _
        rw [upd_ne _ _ x1]; exact u3 x x2 x3
      · show (upd r1.1 12 (r1.1 13) 12).toInt = _
        rw [upd_eq]; exact u1
    rcases hF with ⟨d1, d2⟩ | ⟨d1, d2⟩
    · subst d1
      rw [if_pos (show z2 = 1 by rw [hz]; rfl), if_pos (show r1.1 19 = 12 by rw [u3 19 (by decide) (by decide)]; exact d2)]
      exact fin
    · rw [if_neg (show ¬ z2 = 1 by rw [hz]; exact b1 d1), if_pos (show ((r1.1 22 >>> (z2 &&& 31)) &&& 1) = 1 by rw [hz, bit_eq _ b3, u3 22 (by decide) (by decide), if_pos d2])]
      exact fin
  · exact absurd hX (no c hc)
theorem tc_Told (hB : TxB n T) (h : mT (gMo_ints m) (gMo_text m) n T) {e c N : Nat} (hj : (gMo_ints m 13).toInt = (e : Int)) (he : e ≤ n) (hid : scan (isB T) n e = e) (hc : c ≤ 8) (hX : wn T e (scan (isL T) n e - e) = wc c) (h1 : c ≠ 1) (hF : tb (gMo_ints m 22) (refC c) = false) (hN : (zT_NUMBERS_OF.getD c 0).toInt = (N : Int)) : ∃ r : tQ, f_Mo_takeClause m = some r ∧ (frQ (gMo_ints m) r.2.1 ∧ r.2.1 19 = gMo_ints m 19 ∧ r.2.1 22 = (gMo_ints m 22) ||| (1 <<< (Int32.ofNat (refC c) &&& 31)) ∧ r.2.2.2.2.1 = gMo_readX m ∧ r.2.2.2.2.2 = gMo_readStrong m ∧ (∀ x, ¬ (fT c ≤ x ∧ x < fT c + N) → r.2.2.2.1 x = gMo_readTold m x) ∧ (∀ y, clR T n (scan (isL T) n e) c false N = some y → r.1.toInt = y.1 ∧ (r.2.1 12).toInt = (y.2 : Int)) ∧ (clR T n (scan (isL T) n e) c false N = none → r.1 = 0 ∧ r.2.1 12 = gMo_ints m 12 ∧ (r.2.1 13).toInt = ((nA T n (pN T n (scan (isL T) n e) N) + 1 : Nat) : Int) ∧ ∀ i, i < N → (r.2.2.2.1 (fT c + i)).toInt = nV T n (pN T n (scan (isL T) n e) i))) := by
  rw [tc_eq]
  refine bind_ex' (m_readWord hB h hj he) (fun r1 hh => ?_)
  rw [hid] at hh
  obtain ⟨u1, u2, u3, u4⟩ := hh
  obtain ⟨-, e2, -, -⟩ := scan_spec (isL T) he
  refine zlet_ex fun z2 hz => ?_
  obtain ⟨b1, b2, b3⟩ := refC_b ⟨c, by omega⟩
  have b1 : c ≠ 1 → ¬ Int32.ofNat (refC c) = 1 := b1
  have b2 : (0 : Int32) ≤ Int32.ofNat (refC c) := b2
  have b3 : refC c < 24 := b3
  rcases m_clauseOf (m := ((r1.1), (gMo_told m), (gMo_postX m), (gMo_postStrong m), (gMo_atRow m), (gMo_heights m), (gMo_ship m), (gMo_lines m), (gMo_text m), (r1.2), (gMo_readTold m), (gMo_readX m), (gMo_readStrong m), (gMo_readRow m), (gMo_parting m), (gMo_wasShip m), (gMo_wasLines m), (gMo_worst m), (gMo_logRow m), (gMo_images m), (gMo_isKept m))) u4 with ⟨c', c1, c2, c3⟩ | ⟨no, -⟩
  · have ec : c' = c := wc_ne ⟨c', by omega⟩ ⟨c, by omega⟩ (c2.symm.trans hX)
    subst ec
    rw [c3] at hz
    rw [if_pos (show 0 ≤ z2 by rw [hz]; exact b2), if_neg (show ¬ z2 = 1 by rw [hz]; exact b1 h1), if_neg (show ¬ ((r1.1 22 >>> (z2 &&& 31)) &&& 1) = 1 by rw [hz, bit_eq _ b3, u3 22 (by decide) (by decide), if_neg (by rw [hF]; decide)]; decide)]
    refine zlet_ex fun z7 h7 => ?_
    rw [hz, u3 22 (by decide) (by decide)] at h7
    obtain ⟨g, hg⟩ : ∃ g, g = upd (upd r1.1 22 z7) 13 (r1.1 15) := ⟨_, rfl⟩
    rw [← hg, hz]
    have g13 : (g 13).toInt = (scan (isL T) n e : Int) := by rw [hg, upd_eq]; exact u2
    have gT : mT g (gMo_text m) n T := ⟨by rw [hg, upd_ne _ _ (by decide), upd_ne _ _ (by decide), u3 11 (by decide) (by decide)]; exact h.1, h.2⟩
    refine bind_ex' (tc_all (r1 := r1) hB gT e2 g13 hc h1 hN) (fun w8 h8 => ?_)
    obtain ⟨h8, h9, h10⟩ := h8
    obtain ⟨r, er, q1, q2, q3, q4⟩ := tc_end (r1 := r1) hB gT e2 (w := w8) h8.1
    have tx : r.2.2.2.1 = w8.2.2.1 := congrArg (fun x => x.1) q1
    have tX : r.2.2.2.2.1 = w8.2.2.2.1 := congrArg (fun x => x.2.1) q1
    have tS : r.2.2.2.2.2 = w8.2.2.2.2 := congrArg (fun x => x.2.2) q1
    refine ⟨r, er, fun x x1 x2 x3 x4 x5 x6 x7 => ?_, ?_, ?_, tX.trans h9, tS.trans h10, fun x hx => ?_, q3, fun hy => ?_⟩
    · rw [q2 x x1 x2 x4 x5, hg, upd_ne _ _ x2, upd_ne _ _ x7]; exact u3 x x2 x3
    · rw [q2 19 (by decide) (by decide) (by decide) (by decide), hg, upd_ne _ _ (by decide), upd_ne _ _ (by decide)]; exact u3 19 (by decide) (by decide)
    · rw [q2 22 (by decide) (by decide) (by decide) (by decide), hg, upd_ne _ _ (by decide), upd_eq]; exact h7
    · rw [tx]; exact h8.2.1 x hx
    · obtain ⟨k1, k2, k3⟩ := q4 hy
      refine ⟨k1, ?_, k3, fun i hi => ?_⟩
      · rw [k2, hg, upd_ne _ _ (by decide), upd_ne _ _ (by decide)]; exact u3 12 (by decide) (by decide)
      · rw [tx]; exact h8.2.2 (clR_none hy).1 i hi
  · exact absurd hX (no c hc)
theorem tc_Post (hB : TxB n T) (h : mT (gMo_ints m) (gMo_text m) n T) {e np : Nat} {tak : Bool} (hj : (gMo_ints m 13).toInt = (e : Int)) (he : e ≤ n) (hid : scan (isB T) n e = e) (hX : wn T e (scan (isL T) n e - e) = wc 1) (h19 : (gMo_ints m 19).toInt = (np : Int)) (h12 : np < 12) (ht : tak = true ↔ ∃ k, k < np ∧ (gMo_readX m k).toInt = nV T n (scan (isL T) n e)) : ∃ r : tQ, f_Mo_takeClause m = some r ∧ (frQ (gMo_ints m) r.2.1 ∧ (r.2.1 19).toInt = ((np + 1 : Nat) : Int) ∧ r.2.1 22 = (gMo_ints m 22) ||| (1 <<< (Int32.ofNat (refC 1) &&& 31)) ∧ r.2.2.2.1 = gMo_readTold m ∧ (∀ j, j < np → r.2.2.2.2.1 j = gMo_readX m j ∧ r.2.2.2.2.2 j = gMo_readStrong m j) ∧ (∀ y, clR T n (scan (isL T) n e) 1 tak 2 = some y → r.1.toInt = y.1 ∧ (r.2.1 12).toInt = (y.2 : Int)) ∧ (clR T n (scan (isL T) n e) 1 tak 2 = none → r.1 = 0 ∧ r.2.1 12 = gMo_ints m 12 ∧ (r.2.1 13).toInt = ((nA T n (pN T n (scan (isL T) n e) 2) + 1 : Nat) : Int) ∧ (r.2.2.2.2.1 np).toInt = nV T n (pN T n (scan (isL T) n e) 0) ∧ (r.2.2.2.2.2 np).toInt = nV T n (pN T n (scan (isL T) n e) 1))) := by
  rw [tc_eq]
  refine bind_ex' (m_readWord hB h hj he) (fun r1 hh => ?_)
  rw [hid] at hh
  obtain ⟨u1, u2, u3, u4⟩ := hh
  obtain ⟨-, e2, -, -⟩ := scan_spec (isL T) he
  refine zlet_ex fun z2 hz => ?_
  rcases m_clauseOf (m := ((r1.1), (gMo_told m), (gMo_postX m), (gMo_postStrong m), (gMo_atRow m), (gMo_heights m), (gMo_ship m), (gMo_lines m), (gMo_text m), (r1.2), (gMo_readTold m), (gMo_readX m), (gMo_readStrong m), (gMo_readRow m), (gMo_parting m), (gMo_wasShip m), (gMo_wasLines m), (gMo_worst m), (gMo_logRow m), (gMo_images m), (gMo_isKept m))) u4 with ⟨c', c1, c2, c3⟩ | ⟨no, -⟩
  · have ec : c' = 1 := wc_ne ⟨c', by omega⟩ ⟨1, by decide⟩ (c2.symm.trans hX)
    subst ec
    rw [c3] at hz
    have hz : z2 = 1 := hz
    subst hz
    have m19 : r1.1 19 = gMo_ints m 19 := u3 19 (by decide) (by decide)
    rw [if_pos (show (0 : Int32) ≤ 1 by decide), if_pos rfl, if_neg (show ¬ r1.1 19 = 12 from fun z => by
      have := congrArg Int32.toInt z
      rw [m19, h19] at this
      have t : (12 : Int32).toInt = 12 := rfl
      omega)]
    refine zlet_ex fun z7 h7 => ?_
    rw [u3 22 (by decide) (by decide)] at h7
    obtain ⟨g, hg⟩ : ∃ g, g = upd (upd r1.1 22 z7) 13 (r1.1 15) := ⟨_, rfl⟩
    rw [← hg]
    have g13 : (g 13).toInt = (scan (isL T) n e : Int) := by rw [hg, upd_eq]; exact u2
    have g19 : (g 19).toInt = (np : Int) := by rw [hg, upd_ne _ _ (by decide), upd_ne _ _ (by decide), m19]; exact h19
    have gT : mT g (gMo_text m) n T := ⟨by rw [hg, upd_ne _ _ (by decide), upd_ne _ _ (by decide), u3 11 (by decide) (by decide)]; exact h.1, h.2⟩
    unfold tcS
    rw [if_neg (show ¬ (1 : Int32) = 0 by decide), if_pos rfl]
    obtain ⟨w, ew, z, z1, s1, s2, s3⟩ := m_takePost (M := (g, (gMo_told m), (gMo_postX m), (gMo_postStrong m), (gMo_atRow m), (gMo_heights m), (gMo_ship m), (gMo_lines m), (gMo_text m), (r1.2), (gMo_readTold m), (gMo_readX m), (gMo_readStrong m), (gMo_readRow m), (gMo_parting m), (gMo_wasShip m), (gMo_wasLines m), (gMo_worst m), (gMo_logRow m), (gMo_images m), (gMo_isKept m))) hB rfl gT e2 g13 g19 h12 ht
    rw [ew, Option.bind_some, Option.bind_some]
    have gT' : mT (upd g 19 z) (gMo_text m) n T := ⟨by rw [upd_ne _ _ (by decide)]; exact gT.1, h.2⟩
    obtain ⟨r, er, q1, q2, q3, q4⟩ := tc_end (v0 := m) (r1 := r1) hB gT' e2 (w := (w.1, w.2.1, gMo_readTold m, w.2.2.1, w.2.2.2)) s1
    have tx : r.2.2.2.1 = gMo_readTold m := congrArg (fun x => x.1) q1
    have tX : r.2.2.2.2.1 = w.2.2.1 := congrArg (fun x => x.2.1) q1
    have tS : r.2.2.2.2.2 = w.2.2.2 := congrArg (fun x => x.2.2) q1
    refine ⟨r, er, fun x x1 x2 x3 x4 x5 x6 x7 => ?_, ?_, ?_, tx, fun j hj' => ?_, q3, fun hy => ?_⟩
    · rw [q2 x x1 x2 x4 x5, upd_ne _ _ x6, hg, upd_ne _ _ x2, upd_ne _ _ x7]; exact u3 x x2 x3
    · rw [q2 19 (by decide) (by decide) (by decide) (by decide), upd_eq]; exact z1
    · rw [q2 22 (by decide) (by decide) (by decide) (by decide), upd_ne _ _ (by decide), hg, upd_ne _ _ (by decide), upd_eq]; exact h7
    · rw [tX, tS]; exact s2 j hj'
    · obtain ⟨k1, k2, k3⟩ := q4 hy
      obtain ⟨k4, k5⟩ := s3 (clR_none hy).1
      refine ⟨k1, ?_, k3, by rw [tX]; exact k4, by rw [tS]; exact k5⟩
      rw [k2, upd_ne _ _ (by decide), hg, upd_ne _ _ (by decide), upd_ne _ _ (by decide)]; exact u3 12 (by decide) (by decide)
  · exact absurd hX (no 1 (by decide))
end
