/-! THE PURE SIDE 57: the plan's text, both loops in step -/
def eqP (pn : Nat) (s e r a : Nat → Int32) : Prop := ∀ j, j < pn → s j = a (3 * j) ∧ e j = a (3 * j + 1) ∧ r j = a (3 * j + 2)
def pbP (pn : Nat) (a : Nat → Int32) : Prop := PB pn (fun j => (a (3 * j)).toInt) (fun j => (a (3 * j + 1)).toInt) (fun j => (a (3 * j + 2)).toInt)
theorem pbP_next {pn : Nat} {a b : Nat → Int32} {x y z : Int} (h : pbP pn a) (hp : pn < 20) (h1 : (b (3 * pn)).toInt = x) (h2 : (b (3 * pn + 1)).toInt = y) (h3 : (b (3 * pn + 2)).toInt = z) (hl : ∀ j, j < 3 * pn → b j = a j) (hx : 0 ≤ x ∧ x ≤ 999) (hy : -3 ≤ y ∧ y ≤ 3) (hz : -3 ≤ z ∧ z ≤ 3) (hi : ¬ (0 < pn ∧ x ≤ (a (3 * (pn - 1))).toInt)) : pbP (pn + 1) b := by
  obtain ⟨p1, p2, p3⟩ := h
  have p2 : ∀ i, i < pn → (0 ≤ (a (3 * i)).toInt ∧ (a (3 * i)).toInt ≤ 999) ∧ (-3 ≤ (a (3 * i + 1)).toInt ∧ (a (3 * i + 1)).toInt ≤ 3) ∧ (-3 ≤ (a (3 * i + 2)).toInt ∧ (a (3 * i + 2)).toInt ≤ 3) := p2
  have p3 : ∀ i j, i < j → j < pn → (a (3 * i)).toInt < (a (3 * j)).toInt := p3
  refine ⟨by omega, fun i hi' => ?_, fun i j hij hj => ?_⟩
  · show (0 ≤ (b (3 * i)).toInt ∧ (b (3 * i)).toInt ≤ 999) ∧ (-3 ≤ (b (3 * i + 1)).toInt ∧ (b (3 * i + 1)).toInt ≤ 3) ∧ (-3 ≤ (b (3 * i + 2)).toInt ∧ (b (3 * i + 2)).toInt ≤ 3)
    by_cases y' : i = pn
    · subst y'; rw [h1, h2, h3]; exact ⟨hx, hy, hz⟩
    · rw [hl _ (by omega), hl _ (by omega), hl _ (by omega)]; exact p2 i (by omega)
  · show (b (3 * i)).toInt < (b (3 * j)).toInt
    by_cases y' : j = pn
    · subst y'
      rw [h1, hl _ (by omega)]
      by_cases z' : i = j - 1
      · subst z'; omega
      · have := p3 i (j - 1) (by omega) (by omega)
        omega
    · rw [hl _ (by omega), hl _ (by omega)]; exact p3 i j hij (by omega)
def wellP (pn : Nat) (t : sR) (u : sT) : Prop := t.2.1 3 = 0 ∧ u.1 = 0 ∧ t.2.1 4 = -1 ∧ u.2.1 12 = -1 ∧ pbP pn u.2.2.2 ∧ (u.2.1 24).toInt = (pn : Int) ∧ (t.2.2.2.2.2.1 0).toInt = (pn : Int) ∧ eqP pn t.2.2.2.2.2.2.1 t.2.2.2.2.2.2.2.1 t.2.2.2.2.2.2.2.2.1 u.2.2.2
def inP (n : Nat) (g : Nat → Int32) (d : Nat) (t : sR) (u : sT) : Prop := frT g u ∧ (badT t u ∨ ∃ pn k i : Nat, wellP pn t u ∧ k ≤ n ∧ i ≤ k ∧ d = n - k + 1 ∧ t.1.toInt = (i : Int) ∧ (t.2.1 7).toInt = (k : Int) ∧ (u.2.1 13).toInt = (k : Int) ∧ (t.2.2.2.2.2.2.2.2.2.2.2.1 9).toInt = (pn : Int) ∧ t.2.2.1 13 = 0)
def outP (g : Nat → Int32) (t : sR) (u : sT) : Prop := frT g u ∧ (badT t u ∨ ∃ pn, wellP pn t u)
section
variable {n : Nat} {T : Nat → Int} {w : tTe} {m : tMo}
theorem plan_step (hB : TxB n T) (h : cT w n T) (hm : mT (gMo_ints m) (gMo_text m) n T) (d : Nat) (t : sR) (u : sT) (ih : sR → Option sR) (ih' : sT → Option sT) (hI : inP n (gMo_ints m) d t u) (go : ∀ d' t' u', d' < d → inP n (gMo_ints m) d' t' u' → ∃ e e', ih t' = some e ∧ ih' u' = some e' ∧ outP (gMo_ints m) e e') : ∃ e e', fB_Re_read_61 w 1 ih t = some e ∧ fB_Mo_plan_17 m ih' u = some e' ∧ outP (gMo_ints m) e e' := by
  have n300 := hB.1
  obtain ⟨fr, hI⟩ := hI
  rcases hI with bad | ⟨pn, k, i, wl, hk, hik, hd, a1, a7, a13, a10, aq⟩
  · obtain ⟨F, f1, f2, f3, f4⟩ := bad
    have c1 : ¬ t.2.1 3 = 0 := fun z => by rw [z] at f1; have : (0 : Int32).toInt = 0 := rfl; omega
    have c2 : ¬ u.1 = 0 := fun z => by rw [z] at f2; have : (0 : Int32).toInt = 0 := rfl; omega
    simp only [fB_Re_read_61, fB_Mo_plan_17]
    rw [if_neg c2]
    by_cases c3 : (300 : Int32) < t.1
    · rw [if_pos c3]
      exact ⟨_, _, rfl, rfl, fr, Or.inl ⟨F, f1, f2, f3, f4⟩⟩
    · rw [if_neg c3, if_neg c1]
      exact ⟨_, _, rfl, rfl, fr, Or.inl ⟨F, f1, f2, f3, f4⟩⟩
  · obtain ⟨w1, w2, w3, w4, w5, w6, w7, w8⟩ := wl
    have p20 : pn ≤ 20 := w5.1
    obtain ⟨b1, b2, b3, b4⟩ := scan_spec (isB T) hk
    have hT11 : (u.2.1 11).toInt = (n : Int) := by rw [fr 11 (by decide) (by decide) (by decide) (by decide) (by decide) (by decide)]; exact hm.1
    obtain ⟨r16, e16, g16⟩ := c_blanks hB h a7 hk
    obtain ⟨r7, e7, g7, o7, p7⟩ := m_here (m := (u.2.1, gMo_told m, gMo_postX m, gMo_postStrong m, gMo_atRow m, gMo_heights m, gMo_ship m, gMo_lines m, gMo_text m, u.2.2.1, gMo_readTold m, gMo_readX m, gMo_readStrong m, u.2.2.2, gMo_parting m, gMo_wasShip m, gMo_wasLines m, gMo_worst m, gMo_logRow m, gMo_images m, gMo_isKept m)) hB ⟨hT11, hm.2⟩ a13 hk
    have idem := scan_idem (isB T) hk
    generalize hs : scan (isB T) n k = e at *
    have o7 : ∀ x, x ≠ 13 → r7.2 x = u.2.1 x := o7
    simp only [fB_Re_read_61, fB_Mo_plan_17]
    rw [if_neg (show ¬ (300 : Int32) < t.1 by rw [Int32.lt_iff_toInt_lt, a1]; show ¬ (300 : Int) < (i : Int); omega), if_pos w1, if_pos w2, e16, Option.bind_some, e7, Option.bind_some]
    rcases p7 with ⟨en, p7⟩ | ⟨en, p7⟩
    · rw [if_neg (show ¬ r16 < gTe_ints w 1 by rw [Int32.lt_iff_toInt_lt, g16, h.1]; omega), if_pos (show r7.1 < 0 by rw [p7]; decide)]
      refine ⟨_, _, rfl, rfl, fun x x1 x2 x3 x4 x5 x6 => (o7 x x2).trans (fr x x1 x2 x3 x4 x5 x6), Or.inr ⟨pn, ?_, w2, ?_, (o7 12 (by decide)).trans w4, w5, ?_, w7, w8⟩⟩
      · show upd t.2.1 7 r16 3 = 0
        rw [upd_ne _ _ (by decide)]; exact w1
      · show upd t.2.1 7 r16 4 = -1
        rw [upd_ne _ _ (by decide)]; exact w3
      · show (r7.2 24).toInt = _
        rw [o7 24 (by decide)]; exact w6
    · have tb := hB.2 e en
      rw [if_pos (show r16 < gTe_ints w 1 by rw [Int32.lt_iff_toInt_lt, g16, h.1]; omega), if_neg (show ¬ r7.1 < 0 from fun z => by rw [Int32.lt_iff_toInt_lt, p7] at z; have z : T e < 0 := z; omega)]
      have hr11 : (r7.2 11).toInt = (n : Int) := by rw [o7 11 (by decide)]; exact hT11
      have hr24 : (r7.2 24).toInt = (pn : Int) := by rw [o7 24 (by decide)]; exact w6
      have hfr : ∀ x, x ≠ 12 → x ≠ 13 → x ≠ 15 → x ≠ 16 → x ≠ 17 → x ≠ 24 → r7.2 x = gMo_ints m x := fun x x1 x2 x3 x4 x5 x6 => (o7 x x2).trans (fr x x1 x2 x3 x4 x5 x6)
      obtain ⟨tak, htk⟩ : ∃ tak : Bool, tak = true ↔ (0 < pn ∧ nV T n (scan (isL T) n e) ≤ (u.2.2.2 (3 * (pn - 1))).toInt) := ⟨decide (0 < pn ∧ nV T n (scan (isL T) n e) ≤ (u.2.2.2 (3 * (pn - 1))).toInt), decide_eq_true_iff⟩
      obtain ⟨r9, e9, j1, j2, j3, j4⟩ := m_takeAt (m := (r7.2, gMo_told m, gMo_postX m, gMo_postStrong m, gMo_atRow m, gMo_heights m, gMo_ship m, gMo_lines m, gMo_text m, u.2.2.1, gMo_readTold m, gMo_readX m, gMo_readStrong m, u.2.2.2, gMo_parting m, gMo_wasShip m, gMo_wasLines m, gMo_worst m, gMo_logRow m, gMo_images m, gMo_isKept m)) (e := e) (pn := pn) (tak := tak) hB ⟨hr11, hm.2⟩ g7 (by omega) idem hr24 p20 htk
      have fr9 : frT (gMo_ints m) r9 := fun x x1 x2 x3 x4 x5 x6 => (j1 x x1 x2 x3 x4 x5 x6).trans (hfr x x1 x2 x3 x4 x5 x6)
      rw [e9, Option.bind_some]
      have v7 : (upd t.2.1 7 r16 7).toInt = (e : Int) := by rw [upd_eq]; exact g16
      have t0 : inb (1 : Int32) 3 = true := by decide
      have t1 : zT_FIRST_CLAUSE.getD (ix 1) 0 = Int32.ofNat 9 := by decide
      have t2 : zT_LAST_CLAUSE.getD (ix 1) 0 = Int32.ofNat 9 := by decide
      obtain ⟨q1, q2, q3, -⟩ := scan_spec (isL T) (show e ≤ n by omega)
      by_cases X : wn T e (scan (isL T) n e - e) = wc 9
      · by_cases full : pn = 20
        · obtain ⟨y1, y2⟩ := j3 X full
          rw [c_rcFull (v := (upd t.2.1 7 r16, (t.2.2.1, t.2.2.2.1, t.2.2.2.2.1), (t.2.2.2.2.2.1, t.2.2.2.2.2.2.1, t.2.2.2.2.2.2.2.1, t.2.2.2.2.2.2.2.2.1), (t.2.2.2.2.2.2.2.2.2.1, t.2.2.2.2.2.2.2.2.2.2.1), t.2.2.2.2.2.2.2.2.2.2.2.1, t.2.2.2.2.2.2.2.2.2.2.2.2)) (f := 9) (l := 9) (c := 9) hB h v7 (by omega) (by decide) (by decide) (by decide) t0 t1 t2 X (fun z => by
            have z : t.2.2.2.2.2.2.2.2.2.2.2.1 9 < zT_TIMES_MOST.getD 9 0 := z
            rw [Int32.lt_iff_toInt_lt, a10] at z
            have z : (pn : Int) < 20 := z
            omega), Option.bind_some]
          refine go 0 _ _ (by omega) ⟨fr9, Or.inl ⟨3, ?_, ?_, by decide, ?_⟩⟩
          · show (upd (upd (upd t.2.1 7 r16) 3 3) 4 (upd t.2.1 7 r16 7) 3).toInt = 3
            rw [upd_ne _ _ (by decide), upd_eq]; rfl
          · show r9.1.toInt = 3
            rw [y1]; rfl
          · show upd (upd (upd t.2.1 7 r16) 3 3) 4 (upd t.2.1 7 r16 7) 4 = r9.2.1 12
            rw [upd_eq]; exact Int32.toInt_inj.mp (v7.trans y2.symm)
        · obtain ⟨y1, y2⟩ := j4 X (by omega)
          obtain ⟨r18, e18, x1, x2, x3⟩ := c_rc (v := (upd t.2.1 7 r16, (t.2.2.1, t.2.2.2.1, t.2.2.2.2.1), (t.2.2.2.2.2.1, t.2.2.2.2.2.2.1, t.2.2.2.2.2.2.2.1, t.2.2.2.2.2.2.2.2.1), (t.2.2.2.2.2.2.2.2.2.1, t.2.2.2.2.2.2.2.2.2.2.1), t.2.2.2.2.2.2.2.2.2.2.2.1, t.2.2.2.2.2.2.2.2.2.2.2.2)) (f := 9) (l := 9) (c := 9) (N := 3) (np := 0) (pn := pn) (px := fun _ => 0) (S := fun j => (u.2.2.2 (3 * j)).toInt) (tak := tak) (p0 := 1) (P := fun r5 => r5.1 = t.2.2.1 ∧ (r5.2.2.2.1 0).toInt = ((pn + 1 : Nat) : Int) ∧ ((r5.2.2.2.2.1 pn).toInt = nV T n (pN T n (scan (isL T) n e) 0) ∧ (r5.2.2.2.2.2.1 pn).toInt = nV T n (pN T n (scan (isL T) n e) 1) - 3 ∧ (r5.2.2.2.2.2.2.1 pn).toInt = nV T n (pN T n (scan (isL T) n e) 2) - 3) ∧ ∀ j, j < pn → r5.2.2.2.2.1 j = t.2.2.2.2.2.2.1 j ∧ r5.2.2.2.2.2.1 j = t.2.2.2.2.2.2.2.1 j ∧ r5.2.2.2.2.2.2.1 j = t.2.2.2.2.2.2.2.2.1 j) hB h v7 (by omega) (by decide) (by decide) (by decide) t0 t1 t2 X (by
            show t.2.2.2.2.2.2.2.2.2.2.2.1 9 < zT_TIMES_MOST.getD 9 0
            rw [Int32.lt_iff_toInt_lt, a10]
            show (pn : Int) < 20
            omega) (by show upd t.2.1 7 r16 3 = 0; rw [upd_ne _ _ (by decide)]; exact w1) (by decide) (by decide) (by show (t.2.2.1 13).toInt = 0; rw [aq]; rfl) (fun k hk => absurd hk (by omega)) p20 w7 (fun k hk => by
              show (t.2.2.2.2.2.2.1 k).toInt = _
              rw [(w8 k hk).1]) (htk.trans ⟨fun z => Or.inr ⟨rfl, z⟩, fun z => z.elim (fun z => absurd z.1 (by decide)) (fun z => z.2)⟩) (fun nf f g hg => by
              obtain ⟨z, z1, z2⟩ := st_at (v := (f, (t.2.2.1, t.2.2.2.1, t.2.2.2.2.1), (t.2.2.2.2.2.1, t.2.2.2.2.2.2.1, t.2.2.2.2.2.2.2.1, t.2.2.2.2.2.2.2.2.1), (t.2.2.2.2.2.2.2.2.2.1, t.2.2.2.2.2.2.2.2.2.2.1), t.2.2.2.2.2.2.2.2.2.2.2.1, g)) (pn := pn) (by omega) w7
              have n2 := (nfT_0 nf).1
              have n1 := (nfT_0 n2).1
              have vb1 := nF_0 (k := pN T n (scan (isL T) n e) 1) (pN_le T q2 1).2 (nfT_0 n2).2.1
              have vb2 := nF_0 (k := pN T n (scan (isL T) n e) 2) (pN_le T q2 2).2 (nfT_0 nf).2.1
              have hg1 := hg 1 (by decide)
              have hg2 := hg 2 (by decide)
              refine ⟨_, z2, rfl, ?_, ⟨?_, ?_, ?_⟩, fun j hj => ⟨?_, ?_, ?_⟩⟩
              · show (upd t.2.2.2.2.2.1 0 z 0).toInt = _
                rw [upd_eq]; exact z1
              · show (upd t.2.2.2.2.2.2.1 pn (g 0) pn).toInt = _
                rw [upd_eq]; exact hg 0 (by decide)
              · show (upd t.2.2.2.2.2.2.2.1 pn (g 1 - 3) pn).toInt = _
                rw [upd_eq, ((rp.of 9999 hg1 (by omega) (by omega)).sub (rp.lit 3 3 (a := 3) rfl rfl) (by decide)).1]
              · show (upd t.2.2.2.2.2.2.2.2.1 pn (g 2 - 3) pn).toInt = _
                rw [upd_eq, ((rp.of 9999 hg2 (by omega) (by omega)).sub (rp.lit 3 3 (a := 3) rfl rfl) (by decide)).1]
              · show upd t.2.2.2.2.2.2.1 pn (g 0) j = _
                exact upd_ne _ _ (by omega)
              · show upd t.2.2.2.2.2.2.2.1 pn (g 1 - 3) j = _
                exact upd_ne _ _ (by omega)
              · show upd t.2.2.2.2.2.2.2.2.1 pn (g 2 - 3) j = _
                exact upd_ne _ _ (by omega))
          rw [e18, Option.bind_some]
          cases hc : clR T n (scan (isL T) n e) 9 tak 3 with
          | some y =>
            obtain ⟨k1, k2⟩ := y1 y hc
            obtain ⟨l1, l2, l3⟩ := x2 y hc
            have yp : 0 < y.1 := clR_pos hc
            refine go 0 _ _ (by omega) ⟨fr9, Or.inl ⟨y.1, l1, k1, yp, Int32.toInt_inj.mp (l3.trans k2.symm)⟩⟩
          | none =>
            obtain ⟨k1, k2, k3, k4, k5, k6, k7, k8⟩ := y2 hc
            obtain ⟨l1, l2, l3, l4, l5, l6, ⟨l7, l8, l9⟩, l10⟩ := x3 hc
            obtain ⟨c1, c2⟩ := clR_none hc
            have pb := pN_le T q2 3
            have na := nA_b T pb.2
            have c2' := c2.1
            have n2 := (nfT_0 c1).1
            have n1 := (nfT_0 n2).1
            have vb0 := nF_0 (k := pN T n (scan (isL T) n e) 0) q2 (nfT_0 n1).2.1
            have vb1 := nF_0 (k := pN T n (scan (isL T) n e) 1) (pN_le T q2 1).2 (nfT_0 n2).2.1
            have vb2 := nF_0 (k := pN T n (scan (isL T) n e) 2) (pN_le T q2 2).2 (nfT_0 c1).2.1
            rw [lo_9.1.2] at vb0
            rw [lo_9.2.1.2] at vb1
            rw [lo_9.2.2.2] at vb2
            have nt : ¬ tak = true := fun z => (nfT_0 n1).2.2 ⟨rfl, z⟩
            have w5' : pbP (pn + 1) r9.2.2.2 := pbP_next w5 (by omega) k5 k6 k7 k8 ⟨by omega, by omega⟩ ⟨by omega, by omega⟩ ⟨by omega, by omega⟩ (fun z => nt (htk.mpr z))
            refine go (n - (nA T n (pN T n (scan (isL T) n e) 3) + 1) + 1) _ _ (by omega) ⟨fr9, Or.inr ⟨pn + 1, nA T n (pN T n (scan (isL T) n e) 3) + 1, i + 1, ⟨l1, k1, ?_, ?_, w5', k4, l6, fun j hj => ?_⟩, by omega, by omega, rfl, toInt_succ a1 (by omega), l3, k3, ?_, ?_⟩⟩
            · show r18.1 4 = -1
              rw [l2]
              show upd t.2.1 7 r16 4 = -1
              rw [upd_ne _ _ (by decide)]; exact w3
            · show r9.2.1 12 = -1
              rw [k2]
              show r7.2 12 = -1
              rw [o7 12 (by decide)]; exact w4
            · show r18.2.2.2.2.2.1 j = r9.2.2.2 (3 * j) ∧ r18.2.2.2.2.2.2.1 j = r9.2.2.2 (3 * j + 1) ∧ r18.2.2.2.2.2.2.2.1 j = r9.2.2.2 (3 * j + 2)
              by_cases y : j = pn
              · subst y
                exact ⟨Int32.toInt_inj.mp (l7.trans k5.symm), Int32.toInt_inj.mp (l8.trans k6.symm), Int32.toInt_inj.mp (l9.trans k7.symm)⟩
              · obtain ⟨o1, o2, o3⟩ := l10 j (by omega)
                have o1 : r18.2.2.2.2.2.1 j = t.2.2.2.2.2.2.1 j := o1
                have o2 : r18.2.2.2.2.2.2.1 j = t.2.2.2.2.2.2.2.1 j := o2
                have o3 : r18.2.2.2.2.2.2.2.1 j = t.2.2.2.2.2.2.2.2.1 j := o3
                have m1 : r9.2.2.2 (3 * j) = u.2.2.2 (3 * j) := k8 _ (by omega)
                have m2 : r9.2.2.2 (3 * j + 1) = u.2.2.2 (3 * j + 1) := k8 _ (by omega)
                have m3 : r9.2.2.2 (3 * j + 2) = u.2.2.2 (3 * j + 2) := k8 _ (by omega)
                rw [o1, o2, o3, m1, m2, m3]; exact w8 j (by omega)
            · show (r18.2.2.2.2.2.2.2.2.2.2.1 9).toInt = _
              rw [l4]
              show (upd t.2.2.2.2.2.2.2.2.2.2.2.1 9 (t.2.2.2.2.2.2.2.2.2.2.2.1 9 + 1) 9).toInt = _
              rw [upd_eq]; exact toInt_succ a10 (by omega)
            · show r18.2.1 13 = 0
              have l5' : r18.2.1 = t.2.2.1 := l5
              rw [l5']; exact aq
      · obtain ⟨y1, y2⟩ := j2 X
        rw [c_rcNone (v := (upd t.2.1 7 r16, (t.2.2.1, t.2.2.2.1, t.2.2.2.2.1), (t.2.2.2.2.2.1, t.2.2.2.2.2.2.1, t.2.2.2.2.2.2.2.1, t.2.2.2.2.2.2.2.2.1), (t.2.2.2.2.2.2.2.2.2.1, t.2.2.2.2.2.2.2.2.2.2.1), t.2.2.2.2.2.2.2.2.2.2.2.1, t.2.2.2.2.2.2.2.2.2.2.2.2)) (f := 9) (l := 9) hB h v7 (by omega) (by decide) (by decide) t0 t1 t2 (fun c c1 c2 => by
          have : c = 9 := by omega
          subst this; exact X), Option.bind_some]
        refine go 0 _ _ (by omega) ⟨fr9, Or.inl ⟨1, ?_, ?_, by decide, ?_⟩⟩
        · show (upd (upd (upd t.2.1 7 r16) 3 1) 4 (upd t.2.1 7 r16 7) 3).toInt = 1
          rw [upd_ne _ _ (by decide), upd_eq]; rfl
        · show r9.1.toInt = 1
          rw [y1]; rfl
        · show upd (upd (upd t.2.1 7 r16) 3 1) 4 (upd t.2.1 7 r16 7) 4 = r9.2.1 12
          rw [upd_eq]; exact Int32.toInt_inj.mp (v7.trans y2.symm)
end
