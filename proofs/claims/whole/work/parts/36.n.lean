/-! THE PURE SIDE 50: the tide's text, both loops in step -/
theorem clR_none {T : Nat → Int} {n k c : Nat} {tak : Bool} {N : Nat} (h : clR T n k c tak N = none) : nfT T n k c tak N = none ∧ semiP T n (pN T n k N) := by
  cases e : nfT T n k c tak N with
  | some y => rw [clR_some e] at h; cases h
  | none =>
    refine ⟨rfl, Classical.byContradiction fun no => ?_⟩
    rw [clR_no e no] at h; cases h
theorem nF_3 (T : Nat → Int) (n k : Nat) (lo hi : Int) : nF T n k lo hi = 0 ∨ nF T n k lo hi = 1 ∨ nF T n k lo hi = 2 := by
  unfold nF; split
  · omega
  · split <;> omega
theorem nfT_pos {T : Nat → Int} {n k c : Nat} {tak : Bool} {N : Nat} {y : Int × Nat} (h : nfT T n k c tak N = some y) : 0 < y.1 := by
  induction N with
  | zero =>
    have h : (none : Option (Int × Nat)) = some y := h
    cases h
  | succ N ih =>
    cases e : nfT T n k c tak N with
    | some z =>
      rw [nfT_some e 1] at h; cases h
      exact ih e
    | none =>
      rw [nfT_st e] at h
      have f3 := nF_3 T n (pN T n k N) (cLo c N (nV T n k)) (hiT c N)
      by_cases g : nF T n (pN T n k N) (cLo c N (nV T n k)) (hiT c N) = 0
      · rw [if_pos g] at h
        by_cases g2 : N = 0 ∧ tak = true
        · rw [if_pos g2] at h; cases h
          show (0 : Int) < 4
          decide
        · rw [if_neg g2] at h; cases h
      · rw [if_neg g] at h; cases h
        show 0 < nF T n (pN T n k N) (cLo c N (nV T n k)) (hiT c N)
        omega
theorem clR_pos {T : Nat → Int} {n k c : Nat} {tak : Bool} {N : Nat} {y : Int × Nat} (h : clR T n k c tak N = some y) : 0 < y.1 := by
  cases e : nfT T n k c tak N with
  | some z => rw [clR_some e] at h; cases h; exact nfT_pos e
  | none =>
    by_cases s : semiP T n (pN T n k N)
    · rw [clR_stop e s] at h; cases h
    · rw [clR_no e s] at h; cases h
      show (0 : Int) < 1
      decide
abbrev sR := Int32 × (Nat → Int32) × (Nat → Int32) × (Nat → Int32) × (Nat → Int32) × (Nat → Int32) × (Nat → Int32) × (Nat → Int32) × (Nat → Int32) × (Nat → Int32) × (Nat → Int32) × (Nat → Int32) × (Nat → Int32)
abbrev sT := Int32 × (Nat → Int32) × Int64 × (Nat → Int32)
/-- both failed alike -/
def badT (t : sR) (u : sT) : Prop := ∃ F : Int, (t.2.1 3).toInt = F ∧ u.1.toInt = F ∧ 0 < F ∧ t.2.1 4 = u.2.1 12
def wellT (nh : Nat) (t : sR) (u : sT) : Prop := t.2.1 3 = 0 ∧ u.1 = 0 ∧ t.2.1 4 = -1 ∧ u.2.1 12 = -1 ∧ nh ≤ 24 ∧ (u.2.1 24).toInt = (nh : Int) ∧ (t.2.2.2.2.2.2.2.2.2.1 0).toInt = (nh : Int) ∧ ∀ j, j < nh → t.2.2.2.2.2.2.2.2.2.2.1 j = u.2.2.2 j ∧ 0 ≤ (u.2.2.2 j).toInt ∧ (u.2.2.2 j).toInt ≤ 999
def frT (g : Nat → Int32) (u : sT) : Prop := ∀ x, x ≠ 12 → x ≠ 13 → x ≠ 15 → x ≠ 16 → x ≠ 17 → x ≠ 24 → u.2.1 x = g x
def inT (n : Nat) (g : Nat → Int32) (d : Nat) (t : sR) (u : sT) : Prop := frT g u ∧ (badT t u ∨ ∃ nh k i : Nat, wellT nh t u ∧ k ≤ n ∧ i ≤ k ∧ d = n - k + 1 ∧ t.1.toInt = (i : Int) ∧ (t.2.1 7).toInt = (k : Int) ∧ (u.2.1 13).toInt = (k : Int) ∧ (t.2.2.2.2.2.2.2.2.2.2.2.1 10).toInt = (nh : Int) ∧ t.2.2.1 13 = 0 ∧ t.2.2.2.2.2.1 0 = 0)
def outT (g : Nat → Int32) (t : sR) (u : sT) : Prop := frT g u ∧ (badT t u ∨ ∃ nh, wellT nh t u)
section
variable {n : Nat} {T : Nat → Int} {w : tTe} {m : tMo}
theorem tide_step (hB : TxB n T) (h : cT w n T) (hm : mT (gMo_ints m) (gMo_text m) n T) (d : Nat) (t : sR) (u : sT) (ih : sR → Option sR) (ih' : sT → Option sT) (hI : inT n (gMo_ints m) d t u) (go : ∀ d' t' u', d' < d → inT n (gMo_ints m) d' t' u' → ∃ e e', ih t' = some e ∧ ih' u' = some e' ∧ outT (gMo_ints m) e e') : ∃ e e', fB_Re_read_61 w 2 ih t = some e ∧ fB_Mo_tide_17 m ih' u = some e' ∧ outT (gMo_ints m) e e' := by
  have n300 := hB.1
  obtain ⟨fr, hI⟩ := hI
  rcases hI with bad | ⟨nh, k, i, wl, hk, hik, hd, a1, a7, a13, a10, aq, ap⟩
  · obtain ⟨F, f1, f2, f3, f4⟩ := bad
    have c1 : ¬ t.2.1 3 = 0 := fun z => by rw [z] at f1; have : (0 : Int32).toInt = 0 := rfl; omega
    have c2 : ¬ u.1 = 0 := fun z => by rw [z] at f2; have : (0 : Int32).toInt = 0 := rfl; omega
    simp only [fB_Re_read_61, fB_Mo_tide_17]
    rw [if_neg c2]
    by_cases c3 : (300 : Int32) < t.1
    · rw [if_pos c3]
      exact ⟨_, _, rfl, rfl, fr, Or.inl ⟨F, f1, f2, f3, f4⟩⟩
    · rw [if_neg c3, if_neg c1]
      exact ⟨_, _, rfl, rfl, fr, Or.inl ⟨F, f1, f2, f3, f4⟩⟩
  · obtain ⟨w1, w2, w3, w4, w5, w6, w7, w8⟩ := wl
    obtain ⟨b1, b2, b3, b4⟩ := scan_spec (isB T) hk
    have hT11 : (u.2.1 11).toInt = (n : Int) := by rw [fr 11 (by decide) (by decide) (by decide) (by decide) (by decide) (by decide)]; exact hm.1
    obtain ⟨r16, e16, g16⟩ := c_blanks hB h a7 hk
    obtain ⟨r7, e7, g7, o7, p7⟩ := m_here (m := (u.2.1, gMo_told m, gMo_postX m, gMo_postStrong m, gMo_atRow m, gMo_heights m, gMo_ship m, gMo_lines m, gMo_text m, u.2.2.1, gMo_readTold m, gMo_readX m, gMo_readStrong m, u.2.2.2, gMo_parting m, gMo_wasShip m, gMo_wasLines m, gMo_worst m, gMo_logRow m, gMo_images m, gMo_isKept m)) hB ⟨hT11, hm.2⟩ a13 hk
    have idem := scan_idem (isB T) hk
    generalize hs : scan (isB T) n k = e at *
    have o7 : ∀ x, x ≠ 13 → r7.2 x = u.2.1 x := o7
    simp only [fB_Re_read_61, fB_Mo_tide_17]
    rw [if_neg (show ¬ (300 : Int32) < t.1 by rw [Int32.lt_iff_toInt_lt, a1]; show ¬ (300 : Int) < (i : Int); omega), if_pos w1, if_pos w2, e16, Option.bind_some, e7, Option.bind_some]
    rcases p7 with ⟨en, p7⟩ | ⟨en, p7⟩
    · rw [if_neg (show ¬ r16 < gTe_ints w 1 by rw [Int32.lt_iff_toInt_lt, g16, h.1]; omega), if_pos (show r7.1 < 0 by rw [p7]; decide)]
      refine ⟨_, _, rfl, rfl, fun x x1 x2 x3 x4 x5 x6 => (o7 x x2).trans (fr x x1 x2 x3 x4 x5 x6), Or.inr ⟨nh, ?_, w2, ?_, (o7 12 (by decide)).trans w4, w5, ?_, w7, w8⟩⟩
      · show upd t.2.1 7 r16 3 = 0
        rw [upd_ne _ _ (by decide)]; exact w1
      · show upd t.2.1 7 r16 4 = -1
        rw [upd_ne _ _ (by decide)]; exact w3
      · show (r7.2 24).toInt = _
        rw [o7 24 (by decide)]; exact w6
    · have tb := hB.2 e en
      rw [if_pos (show r16 < gTe_ints w 1 by rw [Int32.lt_iff_toInt_lt, g16, h.1]; omega), if_neg (show ¬ r7.1 < 0 from fun z => by rw [Int32.lt_iff_toInt_lt, p7] at z; have z : T e < 0 := z; omega)]
      have hr11 : (r7.2 11).toInt = (n : Int) := by rw [o7 11 (by decide)]; exact hT11
      have hr24 : (r7.2 24).toInt = (nh : Int) := by rw [o7 24 (by decide)]; exact w6
      have hfr : ∀ x, x ≠ 12 → x ≠ 13 → x ≠ 15 → x ≠ 16 → x ≠ 17 → x ≠ 24 → r7.2 x = gMo_ints m x := fun x x1 x2 x3 x4 x5 x6 => (o7 x x2).trans (fr x x1 x2 x3 x4 x5 x6)
      obtain ⟨r9, e9, j1, j2, j3, j4⟩ := m_takeHour (m := (r7.2, gMo_told m, gMo_postX m, gMo_postStrong m, gMo_atRow m, gMo_heights m, gMo_ship m, gMo_lines m, gMo_text m, u.2.2.1, gMo_readTold m, gMo_readX m, gMo_readStrong m, u.2.2.2, gMo_parting m, gMo_wasShip m, gMo_wasLines m, gMo_worst m, gMo_logRow m, gMo_images m, gMo_isKept m)) (e := e) (nh := nh) hB ⟨hr11, hm.2⟩ g7 (by omega) idem hr24 w5
      have fr9 : frT (gMo_ints m) r9 := fun x x1 x2 x3 x4 x5 x6 => (j1 x x1 x2 x3 x4 x5 x6).trans (hfr x x1 x2 x3 x4 x5 x6)
      rw [e9, Option.bind_some]
      have v7 : (upd t.2.1 7 r16 7).toInt = (e : Int) := by rw [upd_eq]; exact g16
      have t0 : inb (2 : Int32) 3 = true := by decide
      have t1 : zT_FIRST_CLAUSE.getD (ix 2) 0 = Int32.ofNat 10 := by decide
      have t2 : zT_LAST_CLAUSE.getD (ix 2) 0 = Int32.ofNat 10 := by decide
      obtain ⟨q1, q2, q3, -⟩ := scan_spec (isL T) (show e ≤ n by omega)
      by_cases X : wn T e (scan (isL T) n e - e) = wc 10
      · by_cases full : nh = 24
        · obtain ⟨y1, y2⟩ := j3 X full
          rw [c_rcFull (v := (upd t.2.1 7 r16, (t.2.2.1, t.2.2.2.1, t.2.2.2.2.1), (t.2.2.2.2.2.1, t.2.2.2.2.2.2.1, t.2.2.2.2.2.2.2.1, t.2.2.2.2.2.2.2.2.1), (t.2.2.2.2.2.2.2.2.2.1, t.2.2.2.2.2.2.2.2.2.2.1), t.2.2.2.2.2.2.2.2.2.2.2.1, t.2.2.2.2.2.2.2.2.2.2.2.2)) (f := 10) (l := 10) (c := 10) hB h v7 (by omega) (by decide) (by decide) (by decide) t0 t1 t2 X (fun z => by
            have z : t.2.2.2.2.2.2.2.2.2.2.2.1 10 < zT_TIMES_MOST.getD 10 0 := z
            rw [Int32.lt_iff_toInt_lt, a10] at z
            have z : (nh : Int) < 24 := z
            omega), Option.bind_some]
          refine go 0 _ _ (by omega) ⟨fr9, Or.inl ⟨3, ?_, ?_, by decide, ?_⟩⟩
          · show (upd (upd (upd t.2.1 7 r16) 3 3) 4 (upd t.2.1 7 r16 7) 3).toInt = 3
            rw [upd_ne _ _ (by decide), upd_eq]; rfl
          · show r9.1.toInt = 3
            rw [y1]; rfl
          · show upd (upd (upd t.2.1 7 r16) 3 3) 4 (upd t.2.1 7 r16 7) 4 = r9.2.1 12
            rw [upd_eq]; exact Int32.toInt_inj.mp (v7.trans y2.symm)
        · obtain ⟨y1, y2⟩ := j4 X (by omega)
          obtain ⟨r18, e18, x1, x2, x3⟩ := c_rc (v := (upd t.2.1 7 r16, (t.2.2.1, t.2.2.2.1, t.2.2.2.2.1), (t.2.2.2.2.2.1, t.2.2.2.2.2.2.1, t.2.2.2.2.2.2.2.1, t.2.2.2.2.2.2.2.2.1), (t.2.2.2.2.2.2.2.2.2.1, t.2.2.2.2.2.2.2.2.2.2.1), t.2.2.2.2.2.2.2.2.2.2.2.1, t.2.2.2.2.2.2.2.2.2.2.2.2)) (f := 10) (l := 10) (c := 10) (N := 1) (np := 0) (pn := 0) (px := fun _ => 0) (S := fun _ => 0) (tak := false) (p0 := 2) (P := fun r5 => r5.1 = t.2.2.1 ∧ r5.2.2.2.1 = t.2.2.2.2.2.1 ∧ (r5.2.2.2.2.2.2.2.1 0).toInt = ((nh + 1 : Nat) : Int) ∧ (r5.2.2.2.2.2.2.2.2 nh).toInt = nV T n (scan (isL T) n e) ∧ ∀ j, j < nh → r5.2.2.2.2.2.2.2.2 j = t.2.2.2.2.2.2.2.2.2.2.1 j) hB h v7 (by omega) (by decide) (by decide) (by decide) t0 t1 t2 X (by
            show t.2.2.2.2.2.2.2.2.2.2.2.1 10 < zT_TIMES_MOST.getD 10 0
            rw [Int32.lt_iff_toInt_lt, a10]
            show (nh : Int) < 24
            omega) (by show upd t.2.1 7 r16 3 = 0; rw [upd_ne _ _ (by decide)]; exact w1) (by decide) (by decide) (by show (t.2.2.1 13).toInt = 0; rw [aq]; rfl) (fun k hk => absurd hk (by omega)) (by decide) (by show (t.2.2.2.2.2.1 0).toInt = 0; rw [ap]; rfl) (fun k hk => absurd hk (by omega)) ⟨fun z => (by cases z), fun z => (by rcases z with z | z <;> omega)⟩ (fun _ f g hg => by
              obtain ⟨z, z1, z2⟩ := st_hour (v := (f, (t.2.2.1, t.2.2.2.1, t.2.2.2.2.1), (t.2.2.2.2.2.1, t.2.2.2.2.2.2.1, t.2.2.2.2.2.2.2.1, t.2.2.2.2.2.2.2.2.1), (t.2.2.2.2.2.2.2.2.2.1, t.2.2.2.2.2.2.2.2.2.2.1), t.2.2.2.2.2.2.2.2.2.2.2.1, g)) (nh := nh) (by omega) w7
              refine ⟨_, z2, rfl, rfl, ?_, ?_, fun j hj => ?_⟩
              · show (upd t.2.2.2.2.2.2.2.2.2.1 0 z 0).toInt = _
                rw [upd_eq]; exact z1
              · show (upd t.2.2.2.2.2.2.2.2.2.2.1 nh (g 0) nh).toInt = _
                rw [upd_eq]; exact hg 0 (by decide)
              · show upd t.2.2.2.2.2.2.2.2.2.2.1 nh (g 0) j = _
                exact upd_ne _ _ (by omega))
          rw [e18, Option.bind_some]
          cases hc : clR T n (scan (isL T) n e) 10 false 1 with
          | some y =>
            obtain ⟨k1, k2⟩ := y1 y hc
            obtain ⟨l1, l2, l3⟩ := x2 y hc
            have yp : 0 < y.1 := clR_pos hc
            refine go 0 _ _ (by omega) ⟨fr9, Or.inl ⟨y.1, l1, k1, yp, Int32.toInt_inj.mp (l3.trans k2.symm)⟩⟩
          | none =>
            obtain ⟨k1, k2, k3, k4, k5, k6⟩ := y2 hc
            obtain ⟨l1, l2, l3, l4, l5, l6, l7, l8, l9⟩ := x3 hc
            obtain ⟨c1, c2⟩ := clR_none hc
            have pb := pN_le T q2 1
            have na := nA_b T pb.2
            have c2' := c2.1
            have f0 := (nfT_0 (N := 0) c1).2.1
            have vb := nF_0 q2 f0
            have vb9 : nV T n (scan (isL T) n e) ≤ 999 := Int.le_trans vb.2.2.2.1 (by rw [lo_10.2]; decide)
            refine go (n - (nA T n (pN T n (scan (isL T) n e) 1) + 1) + 1) _ _ (by omega) ⟨fr9, Or.inr ⟨nh + 1, nA T n (pN T n (scan (isL T) n e) 1) + 1, i + 1, ⟨l1, k1, ?_, ?_, by omega, k4, l7, fun j hj => ?_⟩, by omega, by omega, rfl, toInt_succ a1 (by omega), l3, k3, ?_, ?_, ?_⟩⟩
            · show r18.1 4 = -1
              rw [l2]
              show upd t.2.1 7 r16 4 = -1
              rw [upd_ne _ _ (by decide)]; exact w3
            · show r9.2.1 12 = -1
              rw [k2]
              show r7.2 12 = -1
              rw [o7 12 (by decide)]; exact w4
            · show r18.2.2.2.2.2.2.2.2.2.1 j = r9.2.2.2 j ∧ _ ≤ (r9.2.2.2 j).toInt ∧ (r9.2.2.2 j).toInt ≤ _
              by_cases y : j = nh
              · subst y
                exact ⟨Int32.toInt_inj.mp (l8.trans k5.symm), by rw [k5]; exact vb.2.2.2.2.1, by rw [k5]; exact vb9⟩
              · have l9' : r18.2.2.2.2.2.2.2.2.2.1 j = t.2.2.2.2.2.2.2.2.2.2.1 j := l9 j (by omega)
                have k6' : r9.2.2.2 j = u.2.2.2 j := k6 j (by omega)
                rw [l9', k6']; exact w8 j (by omega)
            · show (r18.2.2.2.2.2.2.2.2.2.2.1 10).toInt = _
              rw [l4]
              show (upd t.2.2.2.2.2.2.2.2.2.2.2.1 10 (t.2.2.2.2.2.2.2.2.2.2.2.1 10 + 1) 10).toInt = _
              rw [upd_eq]; exact toInt_succ a10 (by omega)
            · show r18.2.1 13 = 0
              have l5' : r18.2.1 = t.2.2.1 := l5
              rw [l5']; exact aq
            · show r18.2.2.2.2.1 0 = 0
              have l6' : r18.2.2.2.2.1 = t.2.2.2.2.2.1 := l6
              rw [l6']; exact ap
      · obtain ⟨y1, y2⟩ := j2 X
        rw [c_rcNone (v := (upd t.2.1 7 r16, (t.2.2.1, t.2.2.2.1, t.2.2.2.2.1), (t.2.2.2.2.2.1, t.2.2.2.2.2.2.1, t.2.2.2.2.2.2.2.1, t.2.2.2.2.2.2.2.2.1), (t.2.2.2.2.2.2.2.2.2.1, t.2.2.2.2.2.2.2.2.2.2.1), t.2.2.2.2.2.2.2.2.2.2.2.1, t.2.2.2.2.2.2.2.2.2.2.2.2)) (f := 10) (l := 10) hB h v7 (by omega) (by decide) (by decide) t0 t1 t2 (fun c c1 c2 => by
          have : c = 10 := by omega
          subst this; exact X), Option.bind_some]
        refine go 0 _ _ (by omega) ⟨fr9, Or.inl ⟨1, ?_, ?_, by decide, ?_⟩⟩
        · show (upd (upd (upd t.2.1 7 r16) 3 1) 4 (upd t.2.1 7 r16 7) 3).toInt = 1
          rw [upd_ne _ _ (by decide), upd_eq]; rfl
        · show r9.1.toInt = 1
          rw [y1]; rfl
        · show upd (upd (upd t.2.1 7 r16) 3 1) 4 (upd t.2.1 7 r16 7) 4 = r9.2.1 12
          rw [upd_eq]; exact Int32.toInt_inj.mp (v7.trans y2.symm)
end
