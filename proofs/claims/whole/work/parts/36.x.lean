/-! THE PURE SIDE 63: the quay's text, both loops in step -/
theorem nfT_all {T : Nat → Int} {n k c : Nat} {tak : Bool} {N : Nat} (h : nfT T n k c tak N = none) : ∀ j, j < N → nF T n (pN T n k j) (cLo c j (nV T n k)) (hiT c j) = 0 := by
  induction N with
  | zero => intro j hj; omega
  | succ N ih =>
    intro j hj
    obtain ⟨a, b, -⟩ := nfT_0 h
    by_cases y : j = N
    · subst y; exact b
    · exact ih a j (by omega)
def qLo (x : Nat) : Int := [0, 0, 500, 1, 0, 0, 0, 0, 0, 0, 0, 1, 0].getD x 0
def qHi (x : Nat) : Int := [9999, 9999, 9000, 99, 50, 99, 99, 50, 50, 50, 99, 99, 999].getD x 0
theorem bd_tab : ∀ c : Fin 9, c.val ≠ 1 → (c.val ≠ 0 → 2 ≤ fT c.val) ∧ ∀ j : Fin 3, (j.val : Int) < (zT_NUMBERS_OF.getD c.val 0).toInt → qLo (fT c.val + j.val) = loT c.val j.val ∧ qHi (fT c.val + j.val) = hiT c.val j.val := by decide +kernel
def bdT (f : Nat → Int32) : Prop := (∀ x, x < 13 → qLo x ≤ (f x).toInt ∧ (f x).toInt ≤ qHi x) ∧ (f 0).toInt < (f 1).toInt
theorem bd_next {f f' : Nat → Int32} {T : Nat → Int} {n b c N : Nat} (h : bdT f) (hc : c ≤ 8) (h1 : c ≠ 1) (hN : (zT_NUMBERS_OF.getD c 0).toInt = (N : Int)) (hf : ∀ x, ¬ (fT c ≤ x ∧ x < fT c + N) → f' x = f x) (hv : ∀ i, i < N → (f' (fT c + i)).toInt = nV T n (pN T n b i)) (hb : b ≤ n) (nf : nfT T n b c false N = none) : bdT f' := by
  obtain ⟨t1, t2⟩ := bd_tab ⟨c, by omega⟩ h1
  have t1 : c ≠ 0 → 2 ≤ fT c := t1
  have nb : 1 ≤ (zT_NUMBERS_OF.getD c 0).toInt ∧ (zT_NUMBERS_OF.getD c 0).toInt ≤ 3 := nums_b ⟨c, by omega⟩
  have al := nfT_all nf
  have v0 := nF_0 (k := pN T n b 0) (pN_le T hb 0).2 (al 0 (by omega))
  refine ⟨fun x hx => ?_, ?_⟩
  · by_cases y : fT c ≤ x ∧ x < fT c + N
    · obtain ⟨i, hi⟩ : ∃ i, i = x - fT c := ⟨_, rfl⟩
      have ei : x = fT c + i := by omega
      have iN : i < N := by omega
      obtain ⟨p1, p2⟩ := t2 ⟨i, by omega⟩ (by show (i : Int) < (zT_NUMBERS_OF.getD c 0).toInt; omega)
      have p1 : qLo (fT c + i) = loT c i := p1
      have p2 : qHi (fT c + i) = hiT c i := p2
      have w := nF_0 (k := pN T n b i) (pN_le T hb i).2 (al i iN)
      rw [ei, hv i iN, p1, p2]
      refine ⟨?_, w.2.2.2.1⟩
      have w1 := w.2.2.1
      unfold cLo at w1
      by_cases z : c = 0 ∧ i = 1
      · obtain ⟨z1, z2⟩ := z
        subst z1; subst z2
        have : loT 0 1 = 0 := by decide +kernel
        rw [this]; exact w.2.2.2.2.1
      · rw [if_neg z] at w1; exact w1
    · rw [hf x y]; exact h.1 x hx
  · by_cases z : c = 0
    · subst z
      have e2 : (zT_NUMBERS_OF.getD 0 0).toInt = 2 := by decide +kernel
      have f0 : fT 0 = 0 := by decide +kernel
      have a0 := hv 0 (by omega)
      have a1 := hv 1 (by omega)
      rw [f0] at a0 a1
      have a0 : (f' 0).toInt = nV T n b := a0
      have a1 : (f' 1).toInt = nV T n (pN T n b 1) := a1
      have w := nF_0 (k := pN T n b 1) (pN_le T hb 1).2 (al 1 (by omega))
      have w1 : nV T n b + 1 ≤ nV T n (pN T n b 1) := w.2.2.1
      omega
    · have := t1 z
      rw [hf 0 (by omega), hf 1 (by omega)]; exact h.2
def bdP (np : Nat) (f g : Nat → Int32) : Prop := ∀ j, j < np → (0 ≤ (f j).toInt ∧ (f j).toInt ≤ 9999) ∧ (1 ≤ (g j).toInt ∧ (g j).toInt ≤ 999)
def badQ (t : sR) (u : tQ) : Prop := ∃ F : Int, (t.2.1 3).toInt = F ∧ u.1.toInt = F ∧ 0 < F ∧ t.2.1 4 = u.2.1 12
def wellQ (np : Nat) (t : sR) (u : tQ) : Prop := t.2.1 3 = 0 ∧ u.1 = 0 ∧ t.2.1 4 = -1 ∧ u.2.1 12 = -1 ∧ np ≤ 12 ∧ (u.2.1 19).toInt = (np : Int) ∧ (t.2.2.1 13).toInt = (np : Int) ∧ (∀ j, j < 13 → t.2.2.1 j = u.2.2.2.1 j) ∧ (∀ j, j < np → t.2.2.2.1 j = u.2.2.2.2.1 j ∧ t.2.2.2.2.1 j = u.2.2.2.2.2 j) ∧ bdT u.2.2.2.1 ∧ bdP np u.2.2.2.2.1 u.2.2.2.2.2
def tmQ (np : Nat) (f : Nat → Int32) (a : Int32) : Prop := (f 1).toInt = (np : Int) ∧ ∀ c, c ≤ 8 → c ≠ 1 → (f c = 1 ∧ tb a (refC c) = true) ∨ (f c = 0 ∧ tb a (refC c) = false)
theorem tm_told {np c : Nat} {f : Nat → Int32} {a : Int32} (h : tmQ np f a) (hc : c ≤ 8) (h1 : c ≠ 1) (h0 : f c = 0) : tmQ np (upd f c (f c + 1)) (a ||| (1 <<< (Int32.ofNat (refC c) &&& 31))) := by
  refine ⟨by rw [upd_ne _ _ (by omega)]; exact h.1, fun d hd d1 => ?_⟩
  have bc : refC c < 24 := (refC_b ⟨c, by omega⟩).2.2
  have bd : refC d < 24 := (refC_b ⟨d, by omega⟩).2.2
  rw [tb_or, tb_one bc bd]
  by_cases y : d = c
  · subst y
    rw [upd_eq, h0, decide_eq_true rfl, Bool.or_true]
    exact Or.inl ⟨by decide, rfl⟩
  · have ne : ¬ refC d = refC c := fun z => y (refC_i ⟨d, by omega⟩ ⟨c, by omega⟩ z)
    rw [upd_ne _ _ y, decide_eq_false ne, Bool.or_false]
    exact h.2 d hd d1
theorem tm_post {np : Nat} {f : Nat → Int32} {a : Int32} (h : tmQ np f a) (h12 : np < 12) : tmQ (np + 1) (upd f 1 (f 1 + 1)) (a ||| (1 <<< (Int32.ofNat (refC 1) &&& 31))) := by
  refine ⟨by rw [upd_eq]; exact toInt_succ h.1 (by omega), fun d hd d1 => ?_⟩
  have bc : refC 1 < 24 := (refC_b ⟨1, by omega⟩).2.2
  have bd : refC d < 24 := (refC_b ⟨d, by omega⟩).2.2
  have ne : ¬ refC d = refC 1 := fun z => d1 (refC_i ⟨d, by omega⟩ ⟨1, by omega⟩ z)
  rw [tb_or, tb_one bc bd, upd_ne _ _ d1, decide_eq_false ne, Bool.or_false]
  exact h.2 d hd d1
theorem most_q : ∀ c : Fin 9, c.val ≠ 1 → zT_TIMES_MOST.getD c.val 0 = 1 := by decide +kernel
def inQ (n : Nat) (g : Nat → Int32) (d : Nat) (t : sR) (u : tQ) : Prop := frQ g u.2.1 ∧ (badQ t u ∨ ∃ np k i : Nat, wellQ np t u ∧ k ≤ n ∧ i ≤ k ∧ d = n - k + 1 ∧ t.1.toInt = (i : Int) ∧ (t.2.1 7).toInt = (k : Int) ∧ (u.2.1 13).toInt = (k : Int) ∧ tmQ np t.2.2.2.2.2.2.2.2.2.2.2.1 (u.2.1 22) ∧ t.2.2.2.2.2.1 0 = 0)
def outQ (g : Nat → Int32) (t : sR) (u : tQ) : Prop := frQ g u.2.1 ∧ (badQ t u ∨ ∃ np, wellQ np t u)
section
variable {n : Nat} {T : Nat → Int} {w : tTe} {m : tMo}
theorem quay_step (hB : TxB n T) (h : cT w n T) (hm : mT (gMo_ints m) (gMo_text m) n T) (d : Nat) (t : sR) (u : tQ) (ih : sR → Option sR) (ih' : tQ → Option tQ) (hI : inQ n (gMo_ints m) d t u) (go : ∀ d' t' u', d' < d → inQ n (gMo_ints m) d' t' u' → ∃ e e', ih t' = some e ∧ ih' u' = some e' ∧ outQ (gMo_ints m) e e') : ∃ e e', fB_Re_read_61 w 0 ih t = some e ∧ fB_Mo_quay_46 m ih' u = some e' ∧ outQ (gMo_ints m) e e' := by
  have n300 := hB.1
  obtain ⟨fr, hI⟩ := hI
  rcases hI with bad | ⟨np, k, i, wl, hk, hik, hd, a1, a7, a13, at9, ap⟩
  · obtain ⟨F, f1, f2, f3, f4⟩ := bad
    have c1 : ¬ t.2.1 3 = 0 := fun z => by rw [z] at f1; have : (0 : Int32).toInt = 0 := rfl; omega
    have c2 : ¬ u.1 = 0 := fun z => by rw [z] at f2; have : (0 : Int32).toInt = 0 := rfl; omega
    simp only [fB_Re_read_61, fB_Mo_quay_46]
    rw [if_neg c2]
    by_cases c3 : (300 : Int32) < t.1
    · rw [if_pos c3]
      exact ⟨_, _, rfl, rfl, fr, Or.inl ⟨F, f1, f2, f3, f4⟩⟩
    · rw [if_neg c3, if_neg c1]
      exact ⟨_, _, rfl, rfl, fr, Or.inl ⟨F, f1, f2, f3, f4⟩⟩
  · obtain ⟨w1, w2, w3, w4, w5, w6, w7, w8, w9, w10, w11⟩ := wl
    obtain ⟨b1, b2, b3, b4⟩ := scan_spec (isB T) hk
    have hT11 : (u.2.1 11).toInt = (n : Int) := by rw [fr 11 (by decide) (by decide) (by decide) (by decide) (by decide) (by decide) (by decide)]; exact hm.1
    obtain ⟨r16, e16, g16⟩ := c_blanks hB h a7 hk
    obtain ⟨r7, e7, g7, o7, p7⟩ := m_here (m := (u.2.1, gMo_told m, gMo_postX m, gMo_postStrong m, gMo_atRow m, gMo_heights m, gMo_ship m, gMo_lines m, gMo_text m, u.2.2.1, u.2.2.2.1, u.2.2.2.2.1, u.2.2.2.2.2, gMo_readRow m, gMo_parting m, gMo_wasShip m, gMo_wasLines m, gMo_worst m, gMo_logRow m, gMo_images m, gMo_isKept m)) hB ⟨hT11, hm.2⟩ a13 hk
    have idem := scan_idem (isB T) hk
    generalize hs : scan (isB T) n k = e at *
    have o7 : ∀ x, x ≠ 13 → r7.2 x = u.2.1 x := o7
    simp only [fB_Re_read_61, fB_Mo_quay_46]
    rw [if_neg (show ¬ (300 : Int32) < t.1 by rw [Int32.lt_iff_toInt_lt, a1]; show ¬ (300 : Int) < (i : Int); omega), if_pos w1, if_pos w2, e16, Option.bind_some, e7, Option.bind_some]
    rcases p7 with ⟨en, p7⟩ | ⟨en, p7⟩
    · rw [if_neg (show ¬ r16 < gTe_ints w 1 by rw [Int32.lt_iff_toInt_lt, g16, h.1]; omega), if_pos (show r7.1 < 0 by rw [p7]; decide)]
      refine ⟨_, _, rfl, rfl, fun x x1 x2 x3 x4 x5 x6 x7 => (o7 x x2).trans (fr x x1 x2 x3 x4 x5 x6 x7), Or.inr ⟨np, ?_, w2, ?_, (o7 12 (by decide)).trans w4, w5, ?_, w7, w8, w9, w10, w11⟩⟩
      · show upd t.2.1 7 r16 3 = 0
        rw [upd_ne _ _ (by decide)]; exact w1
      · show upd t.2.1 7 r16 4 = -1
        rw [upd_ne _ _ (by decide)]; exact w3
      · show (r7.2 19).toInt = _
        rw [o7 19 (by decide)]; exact w6
    · have tb' := hB.2 e en
      rw [if_pos (show r16 < gTe_ints w 1 by rw [Int32.lt_iff_toInt_lt, g16, h.1]; omega), if_neg (show ¬ r7.1 < 0 from fun z => by rw [Int32.lt_iff_toInt_lt, p7] at z; have z : T e < 0 := z; omega)]
      have hr11 : (r7.2 11).toInt = (n : Int) := by rw [o7 11 (by decide)]; exact hT11
      have hr19 : (r7.2 19).toInt = (np : Int) := by rw [o7 19 (by decide)]; exact w6
      have hr22 : r7.2 22 = u.2.1 22 := o7 22 (by decide)
      have hfr : frQ (gMo_ints m) r7.2 := fun x x1 x2 x3 x4 x5 x6 x7 => (o7 x x2).trans (fr x x1 x2 x3 x4 x5 x6 x7)
      have v7 : (upd t.2.1 7 r16 7).toInt = (e : Int) := by rw [upd_eq]; exact g16
      have t0 : inb (0 : Int32) 3 = true := by decide
      have t1 : zT_FIRST_CLAUSE.getD (ix 0) 0 = Int32.ofNat 0 := by decide
      have t2 : zT_LAST_CLAUSE.getD (ix 0) 0 = Int32.ofNat 8 := by decide
      obtain ⟨q1, q2, q3, -⟩ := scan_spec (isL T) (show e ≤ n by omega)
      by_cases EX : ∃ c, c ≤ 8 ∧ wn T e (scan (isL T) n e - e) = wc c
      · obtain ⟨c, hc, hX⟩ := EX
        obtain ⟨N, hN, N1, N3⟩ : ∃ N : Nat, (zT_NUMBERS_OF.getD c 0).toInt = (N : Int) ∧ 1 ≤ N ∧ N ≤ 3 := by
          have nb : 1 ≤ (zT_NUMBERS_OF.getD c 0).toInt ∧ (zT_NUMBERS_OF.getD c 0).toInt ≤ 3 := nums_b ⟨c, by omega⟩
          exact ⟨(zT_NUMBERS_OF.getD c 0).toInt.toNat, by omega, by omega, by omega⟩
        by_cases c1 : c = 1
        · subst c1
          have mo : zT_TIMES_MOST.getD 1 0 = 12 := by decide
          by_cases full : np = 12
          · obtain ⟨r9, e9, j1, y1, y2⟩ := tc_Full (m := (r7.2, gMo_told m, gMo_postX m, gMo_postStrong m, gMo_atRow m, gMo_heights m, gMo_ship m, gMo_lines m, gMo_text m, u.2.2.1, u.2.2.2.1, u.2.2.2.2.1, u.2.2.2.2.2, gMo_readRow m, gMo_parting m, gMo_wasShip m, gMo_wasLines m, gMo_worst m, gMo_logRow m, gMo_images m, gMo_isKept m)) (e := e) hB ⟨hr11, hm.2⟩ g7 (by omega) idem (by decide) hX (Or.inl ⟨rfl, Int32.toInt_inj.mp (by show (r7.2 19).toInt = _; rw [hr19, full]; rfl)⟩)
            have fr9 : frQ (gMo_ints m) r9.2.1 := fun x x1 x2 x3 x4 x5 x6 x7 => (j1 x x1 x2 x3 x4 x5 x6 x7).trans (hfr x x1 x2 x3 x4 x5 x6 x7)
            rw [e9, Option.bind_some, c_rcFull (v := (upd t.2.1 7 r16, (t.2.2.1, t.2.2.2.1, t.2.2.2.2.1), (t.2.2.2.2.2.1, t.2.2.2.2.2.2.1, t.2.2.2.2.2.2.2.1, t.2.2.2.2.2.2.2.2.1), (t.2.2.2.2.2.2.2.2.2.1, t.2.2.2.2.2.2.2.2.2.2.1), t.2.2.2.2.2.2.2.2.2.2.2.1, t.2.2.2.2.2.2.2.2.2.2.2.2)) (f := 0) (l := 8) (c := 1) hB h v7 (by omega) (by decide) (by decide) (by decide) t0 t1 t2 hX (fun z => by
              have z : t.2.2.2.2.2.2.2.2.2.2.2.1 1 < zT_TIMES_MOST.getD 1 0 := z
              rw [mo, Int32.lt_iff_toInt_lt, at9.1] at z
              have z : (np : Int) < 12 := z
              omega), Option.bind_some]
            refine go 0 _ _ (by omega) ⟨fr9, Or.inl ⟨3, ?_, ?_, by decide, ?_⟩⟩
            · show (upd (upd (upd t.2.1 7 r16) 3 3) 4 (upd t.2.1 7 r16 7) 3).toInt = 3
              rw [upd_ne _ _ (by decide), upd_eq]; rfl
            · show r9.1.toInt = 3
              rw [y1]; rfl
            · show upd (upd (upd t.2.1 7 r16) 3 3) 4 (upd t.2.1 7 r16 7) 4 = r9.2.1 12
              rw [upd_eq]; exact Int32.toInt_inj.mp (v7.trans y2.symm)
          · obtain ⟨tak, htk⟩ : ∃ tak : Bool, tak = true ↔ ∃ k, k < np ∧ (u.2.2.2.2.1 k).toInt = nV T n (scan (isL T) n e) := by
              by_cases z : ∃ k, k < np ∧ (u.2.2.2.2.1 k).toInt = nV T n (scan (isL T) n e)
              · exact ⟨true, fun _ => z, fun _ => rfl⟩
              · exact ⟨false, fun y => (by cases y), fun y => absurd y z⟩
            obtain ⟨r9, e9, j1, j2, j3, j4, j5, y1, y2⟩ := tc_Post (m := (r7.2, gMo_told m, gMo_postX m, gMo_postStrong m, gMo_atRow m, gMo_heights m, gMo_ship m, gMo_lines m, gMo_text m, u.2.2.1, u.2.2.2.1, u.2.2.2.2.1, u.2.2.2.2.2, gMo_readRow m, gMo_parting m, gMo_wasShip m, gMo_wasLines m, gMo_worst m, gMo_logRow m, gMo_images m, gMo_isKept m)) (e := e) (tak := tak) hB ⟨hr11, hm.2⟩ g7 (by omega) idem hX hr19 (by omega) htk
            have fr9 : frQ (gMo_ints m) r9.2.1 := fun x x1 x2 x3 x4 x5 x6 x7 => (j1 x x1 x2 x3 x4 x5 x6 x7).trans (hfr x x1 x2 x3 x4 x5 x6 x7)
            have N2 : N = 2 := by
              have : (zT_NUMBERS_OF.getD 1 0).toInt = 2 := by decide
              omega
            subst N2
            obtain ⟨r18, e18, x1, x2, x3⟩ := c_rc (v := (upd t.2.1 7 r16, (t.2.2.1, t.2.2.2.1, t.2.2.2.2.1), (t.2.2.2.2.2.1, t.2.2.2.2.2.2.1, t.2.2.2.2.2.2.2.1, t.2.2.2.2.2.2.2.2.1), (t.2.2.2.2.2.2.2.2.2.1, t.2.2.2.2.2.2.2.2.2.2.1), t.2.2.2.2.2.2.2.2.2.2.2.1, t.2.2.2.2.2.2.2.2.2.2.2.2)) (f := 0) (l := 8) (c := 1) (N := 2) (np := np) (pn := 0) (px := fun j => (u.2.2.2.2.1 j).toInt) (S := fun _ => 0) (tak := tak) (p0 := 0) (P := fun r5 => (∀ x, x ≠ 13 → r5.1 x = t.2.2.1 x) ∧ (r5.1 13).toInt = ((np + 1 : Nat) : Int) ∧ ((r5.2.1 np).toInt = nV T n (pN T n (scan (isL T) n e) 0) ∧ (r5.2.2.1 np).toInt = nV T n (pN T n (scan (isL T) n e) 1)) ∧ (∀ j, j < np → r5.2.1 j = t.2.2.2.1 j ∧ r5.2.2.1 j = t.2.2.2.2.1 j) ∧ r5.2.2.2.1 = t.2.2.2.2.2.1) hB h v7 (by omega) (by decide) (by decide) (by decide) t0 t1 t2 hX (by
              show t.2.2.2.2.2.2.2.2.2.2.2.1 1 < zT_TIMES_MOST.getD 1 0
              rw [mo, Int32.lt_iff_toInt_lt, at9.1]
              show (np : Int) < 12
              omega) (by show upd t.2.1 7 r16 3 = 0; rw [upd_ne _ _ (by decide)]; exact w1) hN w5 w7 (fun k hk => by
                show (t.2.2.2.1 k).toInt = _
                rw [(w9 k hk).1]) (by decide) (by show (t.2.2.2.2.2.1 0).toInt = 0; rw [ap]; rfl) (fun k hk => absurd hk (by omega)) (htk.trans ⟨fun z => Or.inl ⟨rfl, z⟩, fun z => z.elim (fun z => z.2) (fun z => absurd z.1 (by decide))⟩) (fun nf f g hg => by
                obtain ⟨z, z1, z2⟩ := st_post (v := (f, (t.2.2.1, t.2.2.2.1, t.2.2.2.2.1), (t.2.2.2.2.2.1, t.2.2.2.2.2.2.1, t.2.2.2.2.2.2.2.1, t.2.2.2.2.2.2.2.2.1), (t.2.2.2.2.2.2.2.2.2.1, t.2.2.2.2.2.2.2.2.2.2.1), t.2.2.2.2.2.2.2.2.2.2.2.1, g)) (np := np) (by omega) w7
                refine ⟨_, z2, fun x hx => ?_, ?_, ⟨?_, ?_⟩, fun j hj => ⟨?_, ?_⟩, rfl⟩
                · show upd t.2.2.1 13 z x = _
                  exact upd_ne _ _ hx
                · show (upd t.2.2.1 13 z 13).toInt = _
                  rw [upd_eq]; exact z1
                · show (upd t.2.2.2.1 np (g 0) np).toInt = _
                  rw [upd_eq]; exact hg 0 (by decide)
                · show (upd t.2.2.2.2.1 np (g 1) np).toInt = _
                  rw [upd_eq]; exact hg 1 (by decide)
                · show upd t.2.2.2.1 np (g 0) j = _
                  exact upd_ne _ _ (by omega)
                · show upd t.2.2.2.2.1 np (g 1) j = _
                  exact upd_ne _ _ (by omega))
            rw [e9, Option.bind_some, e18, Option.bind_some]
            cases hcl : clR T n (scan (isL T) n e) 1 tak 2 with
            | some y =>
              obtain ⟨k1, k2⟩ := y1 y hcl
              obtain ⟨l1, l2, l3⟩ := x2 y hcl
              have yp : 0 < y.1 := clR_pos hcl
              refine go 0 _ _ (by omega) ⟨fr9, Or.inl ⟨y.1, l1, k1, yp, Int32.toInt_inj.mp (l3.trans k2.symm)⟩⟩
            | none =>
              obtain ⟨k1, k2, k3, k4, k5⟩ := y2 hcl
              obtain ⟨l1, l2, l3, l4, l5, l6, ⟨l7, l8⟩, l9, l10⟩ := x3 hcl
              obtain ⟨c1, c2⟩ := clR_none hcl
              have pb := pN_le T q2 2
              have na := nA_b T pb.2
              have c2' := c2.1
              have n1 := (nfT_0 c1).1
              have vb0 := nF_0 (k := pN T n (scan (isL T) n e) 0) q2 (nfT_0 n1).2.1
              have vb1 := nF_0 (k := pN T n (scan (isL T) n e) 1) (pN_le T q2 1).2 (nfT_0 c1).2.1
              rw [lo_1.2.2, cLo_c (y := 0) (by decide), lo_1.2.1] at vb1
              have j5 : ∀ j, j < np → r9.2.2.2.2.1 j = u.2.2.2.2.1 j ∧ r9.2.2.2.2.2 j = u.2.2.2.2.2 j := j5
              have j4 : r9.2.2.2.1 = u.2.2.2.1 := j4
              have l5 : ∀ x, x ≠ 13 → r18.2.1 x = t.2.2.1 x := l5
              have l9 : ∀ j, j < np → r18.2.2.1 j = t.2.2.2.1 j ∧ r18.2.2.2.1 j = t.2.2.2.2.1 j := l9
              have j3 : r9.2.1 22 = r7.2 22 ||| (1 <<< (Int32.ofNat (refC 1) &&& 31)) := j3
              refine go (n - (nA T n (pN T n (scan (isL T) n e) 2) + 1) + 1) _ _ (by omega) ⟨fr9, Or.inr ⟨np + 1, nA T n (pN T n (scan (isL T) n e) 2) + 1, i + 1, ⟨l1, k1, ?_, ?_, by omega, j2, l6, fun j hj => ?_, fun j hj => ?_, ?_, fun j hj => ?_⟩, by omega, by omega, rfl, toInt_succ a1 (by omega), l3, k3, ?_, ?_⟩⟩
              · show r18.1 4 = -1
                rw [l2]
                show upd t.2.1 7 r16 4 = -1
                rw [upd_ne _ _ (by decide)]; exact w3
              · show r9.2.1 12 = -1
                rw [k2]
                show r7.2 12 = -1
                rw [o7 12 (by decide)]; exact w4
              · show r18.2.1 j = r9.2.2.2.1 j
                rw [l5 j (by omega), j4]; exact w8 j hj
              · show r18.2.2.1 j = r9.2.2.2.2.1 j ∧ r18.2.2.2.1 j = r9.2.2.2.2.2 j
                by_cases y : j = np
                · subst y
                  exact ⟨Int32.toInt_inj.mp (l7.trans k4.symm), Int32.toInt_inj.mp (l8.trans k5.symm)⟩
                · obtain ⟨o1, o2⟩ := l9 j (by omega)
                  obtain ⟨m1, m2⟩ := j5 j (by omega)
                  rw [o1, o2, m1, m2]; exact w9 j (by omega)
              · show bdT r9.2.2.2.1
                rw [j4]; exact w10
              · show (0 ≤ (r9.2.2.2.2.1 j).toInt ∧ (r9.2.2.2.2.1 j).toInt ≤ 9999) ∧ (1 ≤ (r9.2.2.2.2.2 j).toInt ∧ (r9.2.2.2.2.2 j).toInt ≤ 999)
                by_cases y : j = np
                · subst y
                  rw [k4, k5]; exact ⟨⟨vb0.2.2.2.2.1, vb0.2.2.2.2.2⟩, vb1.2.2.1, vb1.2.2.2.1⟩
                · obtain ⟨m1, m2⟩ := j5 j (by omega)
                  rw [m1, m2]; exact w11 j (by omega)
              · show tmQ (np + 1) r18.2.2.2.2.2.2.2.2.2.2.1 (r9.2.1 22)
                rw [l4, j3, hr22]
                exact tm_post at9 (by omega)
              · show r18.2.2.2.2.1 0 = 0
                have l10' : r18.2.2.2.2.1 = t.2.2.2.2.2.1 := l10
                rw [l10']; exact ap
        · have mo : zT_TIMES_MOST.getD c 0 = 1 := most_q ⟨c, by omega⟩ c1
          rcases at9.2 c hc c1 with ⟨tc1, tc2⟩ | ⟨tc1, tc2⟩
          · obtain ⟨r9, e9, j1, y1, y2⟩ := tc_Full (m := (r7.2, gMo_told m, gMo_postX m, gMo_postStrong m, gMo_atRow m, gMo_heights m, gMo_ship m, gMo_lines m, gMo_text m, u.2.2.1, u.2.2.2.1, u.2.2.2.2.1, u.2.2.2.2.2, gMo_readRow m, gMo_parting m, gMo_wasShip m, gMo_wasLines m, gMo_worst m, gMo_logRow m, gMo_images m, gMo_isKept m)) (e := e) hB ⟨hr11, hm.2⟩ g7 (by omega) idem hc hX (Or.inr ⟨c1, by show tb (r7.2 22) (refC c) = true; rw [hr22]; exact tc2⟩)
            have fr9 : frQ (gMo_ints m) r9.2.1 := fun x x1 x2 x3 x4 x5 x6 x7 => (j1 x x1 x2 x3 x4 x5 x6 x7).trans (hfr x x1 x2 x3 x4 x5 x6 x7)
            rw [e9, Option.bind_some, c_rcFull (v := (upd t.2.1 7 r16, (t.2.2.1, t.2.2.2.1, t.2.2.2.2.1), (t.2.2.2.2.2.1, t.2.2.2.2.2.2.1, t.2.2.2.2.2.2.2.1, t.2.2.2.2.2.2.2.2.1), (t.2.2.2.2.2.2.2.2.2.1, t.2.2.2.2.2.2.2.2.2.2.1), t.2.2.2.2.2.2.2.2.2.2.2.1, t.2.2.2.2.2.2.2.2.2.2.2.2)) (f := 0) (l := 8) (c := c) hB h v7 (by omega) (by omega) hc (by decide) t0 t1 t2 hX (fun z => by
              have z : t.2.2.2.2.2.2.2.2.2.2.2.1 c < zT_TIMES_MOST.getD c 0 := z
              rw [mo, tc1] at z
              exact absurd z (by decide)), Option.bind_some]
            refine go 0 _ _ (by omega) ⟨fr9, Or.inl ⟨3, ?_, ?_, by decide, ?_⟩⟩
            · show (upd (upd (upd t.2.1 7 r16) 3 3) 4 (upd t.2.1 7 r16 7) 3).toInt = 3
              rw [upd_ne _ _ (by decide), upd_eq]; rfl
            · show r9.1.toInt = 3
              rw [y1]; rfl
            · show upd (upd (upd t.2.1 7 r16) 3 3) 4 (upd t.2.1 7 r16 7) 4 = r9.2.1 12
              rw [upd_eq]; exact Int32.toInt_inj.mp (v7.trans y2.symm)
          · obtain ⟨r9, e9, j1, j2, j3, j4, j5, j6, y1, y2⟩ := tc_Told (m := (r7.2, gMo_told m, gMo_postX m, gMo_postStrong m, gMo_atRow m, gMo_heights m, gMo_ship m, gMo_lines m, gMo_text m, u.2.2.1, u.2.2.2.1, u.2.2.2.2.1, u.2.2.2.2.2, gMo_readRow m, gMo_parting m, gMo_wasShip m, gMo_wasLines m, gMo_worst m, gMo_logRow m, gMo_images m, gMo_isKept m)) (e := e) (N := N) hB ⟨hr11, hm.2⟩ g7 (by omega) idem hc hX c1 (by show tb (r7.2 22) (refC c) = false; rw [hr22]; exact tc2) hN
            have fr9 : frQ (gMo_ints m) r9.2.1 := fun x x1 x2 x3 x4 x5 x6 x7 => (j1 x x1 x2 x3 x4 x5 x6 x7).trans (hfr x x1 x2 x3 x4 x5 x6 x7)
            have ftb : (fT c : Int) + (zT_NUMBERS_OF.getD c 0).toInt ≤ 13 := (fT_b ⟨c, by omega⟩ c1).2
            obtain ⟨r18, e18, x1, x2, x3⟩ := c_rc (v := (upd t.2.1 7 r16, (t.2.2.1, t.2.2.2.1, t.2.2.2.2.1), (t.2.2.2.2.2.1, t.2.2.2.2.2.2.1, t.2.2.2.2.2.2.2.1, t.2.2.2.2.2.2.2.2.1), (t.2.2.2.2.2.2.2.2.2.1, t.2.2.2.2.2.2.2.2.2.2.1), t.2.2.2.2.2.2.2.2.2.2.2.1, t.2.2.2.2.2.2.2.2.2.2.2.2)) (f := 0) (l := 8) (c := c) (N := N) (np := np) (pn := 0) (px := fun j => (u.2.2.2.2.1 j).toInt) (S := fun _ => 0) (tak := false) (p0 := 0) (P := fun r5 => (∀ x, ¬ (fT c ≤ x ∧ x < fT c + N) → r5.1 x = t.2.2.1 x) ∧ (∀ j, j < N → (r5.1 (fT c + j)).toInt = nV T n (pN T n (scan (isL T) n e) j)) ∧ r5.2.1 = t.2.2.2.1 ∧ r5.2.2.1 = t.2.2.2.2.1 ∧ r5.2.2.2.1 = t.2.2.2.2.2.1) hB h v7 (by omega) (by omega) hc (by decide) t0 t1 t2 hX (by
              show t.2.2.2.2.2.2.2.2.2.2.2.1 c < zT_TIMES_MOST.getD c 0
              rw [mo, tc1]; decide) (by show upd t.2.1 7 r16 3 = 0; rw [upd_ne _ _ (by decide)]; exact w1) hN w5 w7 (fun k hk => by
                show (t.2.2.2.1 k).toInt = _
                rw [(w9 k hk).1]) (by decide) (by show (t.2.2.2.2.2.1 0).toInt = 0; rw [ap]; rfl) (fun k hk => absurd hk (by omega)) ⟨fun z => (by cases z), fun z => z.elim (fun z => absurd z.1 c1) (fun z => absurd z.2.1 (by decide))⟩ (fun nf f g hg => by
                obtain ⟨z, z2, z3, z4⟩ := st_told (v := (f, (t.2.2.1, t.2.2.2.1, t.2.2.2.2.1), (t.2.2.2.2.2.1, t.2.2.2.2.2.2.1, t.2.2.2.2.2.2.2.1, t.2.2.2.2.2.2.2.2.1), (t.2.2.2.2.2.2.2.2.2.1, t.2.2.2.2.2.2.2.2.2.2.1), t.2.2.2.2.2.2.2.2.2.2.2.1, g)) hc c1 hN
                exact ⟨_, z2, z3, fun j hj => (by show (z (fT c + j)).toInt = _; rw [z4 j hj]; exact hg j hj), rfl, rfl, rfl⟩)
            rw [e9, Option.bind_some, e18, Option.bind_some]
            cases hcl : clR T n (scan (isL T) n e) c false N with
            | some y =>
              obtain ⟨k1, k2⟩ := y1 y hcl
              obtain ⟨l1, l2, l3⟩ := x2 y hcl
              have yp : 0 < y.1 := clR_pos hcl
              refine go 0 _ _ (by omega) ⟨fr9, Or.inl ⟨y.1, l1, k1, yp, Int32.toInt_inj.mp (l3.trans k2.symm)⟩⟩
            | none =>
              obtain ⟨k1, k2, k3, k4⟩ := y2 hcl
              obtain ⟨l1, l2, l3, l4, l5, l6, l7, l8, l9⟩ := x3 hcl
              obtain ⟨c1', c2⟩ := clR_none hcl
              have pb := pN_le T q2 N
              have na := nA_b T pb.2
              have c2' := c2.1
              have j3 : r9.2.1 22 = r7.2 22 ||| (1 <<< (Int32.ofNat (refC c) &&& 31)) := j3
              have j2 : r9.2.1 19 = r7.2 19 := j2
              have j4 : r9.2.2.2.2.1 = u.2.2.2.2.1 := j4
              have j5 : r9.2.2.2.2.2 = u.2.2.2.2.2 := j5
              have j6 : ∀ x, ¬ (fT c ≤ x ∧ x < fT c + N) → r9.2.2.2.1 x = u.2.2.2.1 x := j6
              have l5 : ∀ x, ¬ (fT c ≤ x ∧ x < fT c + N) → r18.2.1 x = t.2.2.1 x := l5
              have l7 : r18.2.2.1 = t.2.2.2.1 := l7
              have l8 : r18.2.2.2.1 = t.2.2.2.2.1 := l8
              refine go (n - (nA T n (pN T n (scan (isL T) n e) N) + 1) + 1) _ _ (by omega) ⟨fr9, Or.inr ⟨np, nA T n (pN T n (scan (isL T) n e) N) + 1, i + 1, ⟨l1, k1, ?_, ?_, w5, ?_, ?_, fun j hj => ?_, fun j hj => ?_, ?_, ?_⟩, by omega, by omega, rfl, toInt_succ a1 (by omega), l3, k3, ?_, ?_⟩⟩
              · show r18.1 4 = -1
                rw [l2]
                show upd t.2.1 7 r16 4 = -1
                rw [upd_ne _ _ (by decide)]; exact w3
              · show r9.2.1 12 = -1
                rw [k2]
                show r7.2 12 = -1
                rw [o7 12 (by decide)]; exact w4
              · show (r9.2.1 19).toInt = _
                rw [j2]; exact hr19
              · show (r18.2.1 13).toInt = _
                rw [l5 13 (by omega)]; exact w7
              · show r18.2.1 j = r9.2.2.2.1 j
                by_cases y : fT c ≤ j ∧ j < fT c + N
                · have ej : j = fT c + (j - fT c) := by omega
                  rw [ej]
                  exact Int32.toInt_inj.mp ((l6 (j - fT c) (by omega)).trans (k4 (j - fT c) (by omega)).symm)
                · rw [l5 j y, j6 j y]; exact w8 j hj
              · show r18.2.2.1 j = r9.2.2.2.2.1 j ∧ r18.2.2.2.1 j = r9.2.2.2.2.2 j
                rw [l7, l8, j4, j5]; exact w9 j hj
              · show bdT r9.2.2.2.1
                exact bd_next w10 hc c1 hN j6 k4 q2 c1'
              · show bdP np r9.2.2.2.2.1 r9.2.2.2.2.2
                rw [j4, j5]; exact w11
              · show tmQ np r18.2.2.2.2.2.2.2.2.2.2.1 (r9.2.1 22)
                rw [l4, j3, hr22]
                exact tm_told at9 hc c1 tc1
              · show r18.2.2.2.2.1 0 = 0
                have l9' : r18.2.2.2.2.1 = t.2.2.2.2.2.1 := l9
                rw [l9']; exact ap
      · have hX : ∀ c, c ≤ 8 → ¬ wn T e (scan (isL T) n e - e) = wc c := fun c hc z => EX ⟨c, hc, z⟩
        obtain ⟨r9, e9, j1, y1, y2⟩ := tc_None (m := (r7.2, gMo_told m, gMo_postX m, gMo_postStrong m, gMo_atRow m, gMo_heights m, gMo_ship m, gMo_lines m, gMo_text m, u.2.2.1, u.2.2.2.1, u.2.2.2.2.1, u.2.2.2.2.2, gMo_readRow m, gMo_parting m, gMo_wasShip m, gMo_wasLines m, gMo_worst m, gMo_logRow m, gMo_images m, gMo_isKept m)) (e := e) hB ⟨hr11, hm.2⟩ g7 (by omega) idem hX
        have fr9 : frQ (gMo_ints m) r9.2.1 := fun x x1 x2 x3 x4 x5 x6 x7 => (j1 x x1 x2 x3 x4 x5 x6 x7).trans (hfr x x1 x2 x3 x4 x5 x6 x7)
        rw [e9, Option.bind_some, c_rcNone (v := (upd t.2.1 7 r16, (t.2.2.1, t.2.2.2.1, t.2.2.2.2.1), (t.2.2.2.2.2.1, t.2.2.2.2.2.2.1, t.2.2.2.2.2.2.2.1, t.2.2.2.2.2.2.2.2.1), (t.2.2.2.2.2.2.2.2.2.1, t.2.2.2.2.2.2.2.2.2.2.1), t.2.2.2.2.2.2.2.2.2.2.2.1, t.2.2.2.2.2.2.2.2.2.2.2.2)) (f := 0) (l := 8) hB h v7 (by omega) (by decide) (by decide) t0 t1 t2 (fun c _ c2 => hX c c2), Option.bind_some]
        refine go 0 _ _ (by omega) ⟨fr9, Or.inl ⟨1, ?_, ?_, by decide, ?_⟩⟩
        · show (upd (upd (upd t.2.1 7 r16) 3 1) 4 (upd t.2.1 7 r16 7) 3).toInt = 1
          rw [upd_ne _ _ (by decide), upd_eq]; rfl
        · show r9.1.toInt = 1
          rw [y1]; rfl
        · show upd (upd (upd t.2.1 7 r16) 3 1) 4 (upd t.2.1 7 r16 7) 4 = r9.2.1 12
          rw [upd_eq]; exact Int32.toInt_inj.mp (v7.trans y2.symm)
end
