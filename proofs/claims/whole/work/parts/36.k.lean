/-! THE PURE SIDE 47: a clause with room, read by the class -/
section
variable {n : Nat} {T : Nat → Int} {w : tTe}
theorem c_rc {v : tRe} {np pn N : Nat} {px S : Nat → Int} {tak : Bool} (hB : TxB n T) (h : cT w n T) {e f l c : Nat} (hj : (gRe_ints v 7).toInt = (e : Int)) (he : e ≤ n) (hf : f ≤ c) (hcl : c ≤ l) (hl11 : l < 11) {p0 : Int32} (t0 : inb p0 3 = true) (t1 : zT_FIRST_CLAUSE.getD (ix p0) 0 = Int32.ofNat f) (t2 : zT_LAST_CLAUSE.getD (ix p0) 0 = Int32.ofNat l) (hX : wn T e (scan (isL T) n e - e) = wc c) (hr : gRe_times v c < zT_TIMES_MOST.getD c 0) (hf3 : gRe_ints v 3 = 0) (hN : (zT_NUMBERS_OF.getD c 0).toInt = (N : Int))
    (h12 : np ≤ 12) (h1 : (gQu_ints (gRe_quayDraft v) 13).toInt = (np : Int)) (h2 : ∀ k, k < np → (gQu_places (gRe_quayDraft v) k).toInt = px k) (h20 : pn ≤ 20) (h3 : (gPl_ints (gRe_planDraft v) 0).toInt = (pn : Int)) (h4 : ∀ k, k < pn → (gPl_seconds (gRe_planDraft v) k).toInt = S k) (ht : tak = true ↔ takP c np px pn S (nV T n (scan (isL T) n e)))
    {P : (Nat → Int32) × (Nat → Int32) × (Nat → Int32) × (Nat → Int32) × (Nat → Int32) × (Nat → Int32) × (Nat → Int32) × (Nat → Int32) × (Nat → Int32) → Prop} (hst : nfT T n (scan (isL T) n e) c tak N = none → ∀ f g : Nat → Int32, (∀ j, j < N → (g j).toInt = nV T n (pN T n (scan (isL T) n e) j)) → ∃ r5, f_Re_store (f, gRe_quayDraft v, gRe_planDraft v, gRe_tideDraft v, gRe_times v, g) (Int32.ofNat c) = some r5 ∧ P r5) :
    ∃ r, f_Re_readClause v w p0 = some r ∧ ((∀ x, x ≠ 3 → x ≠ 4 → x ≠ 7 → r.1 x = gRe_ints v x) ∧ (∀ y, clR T n (scan (isL T) n e) c tak N = some y → (r.1 3).toInt = y.1 ∧ y.1 ≠ 0 ∧ (r.1 4).toInt = (y.2 : Int)) ∧ (clR T n (scan (isL T) n e) c tak N = none → r.1 3 = 0 ∧ r.1 4 = gRe_ints v 4 ∧ (r.1 7).toInt = ((nA T n (pN T n (scan (isL T) n e) N) + 1 : Nat) : Int) ∧ r.2.2.2.2.2.2.2.2.2.2.1 = upd (gRe_times v) c (gRe_times v c + 1) ∧ P (r.2.1, r.2.2.1, r.2.2.2.1, r.2.2.2.2.1, r.2.2.2.2.2.1, r.2.2.2.2.2.2.1, r.2.2.2.2.2.2.2.1, r.2.2.2.2.2.2.2.2.1, r.2.2.2.2.2.2.2.2.2.1))) := by
  have n300 := hB.1
  obtain ⟨b1, b2, b3, -⟩ := scan_spec (isL T) he
  obtain ⟨r1, e1, g1⟩ := c_letters hB h hj he
  have g1' : r1.toInt = ((e + (scan (isL T) n e - e) : Nat) : Int) := by rw [g1]; omega
  obtain ⟨r2, e2, g2⟩ := c_clauseOf hB h (Nat.le_trans hf hcl) hl11 t0 t1 t2 hj g1' (by omega) (fun i hi => of_decide_eq_true (b3 (e + i) (by omega) (by omega)))
  obtain ⟨o1, o2⟩ := c_ofN ⟨c, by omega⟩
  have o1 : inb (Int32.ofNat c) 11 = true := o1
  have o2 : ix (Int32.ofNat c) = c := o2
  have er2 : r2 = Int32.ofNat c := by
    rcases g2 with ⟨c', c1, c2, c3, g⟩ | ⟨g, -⟩
    · have := wc_ne ⟨c', by omega⟩ ⟨c, by omega⟩ (c3.symm.trans hX)
      have : c' = c := this
      rw [g, this]
    · exact absurd hX (g c hf hcl)
  generalize scan (isL T) n e = b at *
  unfold f_Re_readClause
  rw [e1, Option.bind_some, e2, Option.bind_some, er2, if_neg (ne_m1 (by omega)), if_pos o1, if_pos o1, o2, if_pos hr]
  refine bind_ex' (c_nums (v := v) (k := b) (tak := tak) (f := upd (gRe_ints v) 7 r1) (g := gRe_row v) hB h b2 (by omega) hN h12 h1 h2 h20 h3 h4 ht (by rw [upd_ne _ _ (by decide)]; exact hf3) (by rw [upd_eq]; exact g1)) (fun q11 h11 => ?_)
  obtain ⟨k1, k2, k3⟩ := h11
  have oth : ∀ x, x ≠ 3 → x ≠ 4 → x ≠ 7 → q11.2.1 x = gRe_ints v x := fun x x1 x2 x3 => (k1 x x1 x2 x3).trans (upd_ne _ _ x3)
  cases hy : nfT T n b c tak N with
  | some y =>
    obtain ⟨y1, y2, y3⟩ := k2 y hy
    have cl := clR_some hy
    rw [if_neg (show ¬ q11.2.1 3 = 0 from fun z => y2 (by rw [← y1, z]; rfl))]
    refine ⟨_, rfl, oth, fun z hz => ?_, fun hz => ?_⟩
    · rw [cl] at hz; cases hz; exact ⟨y1, y2, y3⟩
    · rw [cl] at hz; cases hz
  | none =>
    obtain ⟨y1, y2, y3, y4⟩ := k3 hy
    have y2 : q11.2.1 4 = gRe_ints v 4 := y2.trans (upd_ne _ _ (by decide))
    rw [if_pos y1]
    have pb := pN_le T b2 N
    obtain ⟨s1, f1, f2, s2, f3, f4⟩ := c_stop hB h y3 pb.2
    obtain ⟨a1, a2, -⟩ := nA_b T pb.2
    unfold f_Re_readEnd
    have f1' : f_Te_behindBlanks w (gRe_ints (q11.2.1, gRe_quayDraft v, gRe_planDraft v, gRe_tideDraft v, gRe_times v, q11.2.2) 7) = some s1 := f1
    rw [f1', Option.bind_some, f3, Option.bind_some]
    rcases f4 with ⟨m1, m2⟩ | ⟨m1, m2⟩
    · have cl := clR_stop hy m1
      rw [if_pos m2]
      obtain ⟨r5, p1, p2⟩ := hst hy (upd q11.2.1 7 (s1 + 1)) q11.2.2 y4
      simp only [zlet, if_pos o1, o2]
      have p1' : f_Re_store (upd (gRe_ints (q11.2.1, gRe_quayDraft v, gRe_planDraft v, gRe_tideDraft v, gRe_times v, q11.2.2)) 7 (s1 + 1), gRe_quayDraft (q11.2.1, gRe_quayDraft v, gRe_planDraft v, gRe_tideDraft v, gRe_times v, q11.2.2), gRe_planDraft (q11.2.1, gRe_quayDraft v, gRe_planDraft v, gRe_tideDraft v, gRe_times v, q11.2.2), gRe_tideDraft (q11.2.1, gRe_quayDraft v, gRe_planDraft v, gRe_tideDraft v, gRe_times v, q11.2.2), gRe_times (q11.2.1, gRe_quayDraft v, gRe_planDraft v, gRe_tideDraft v, gRe_times v, q11.2.2), gRe_row (q11.2.1, gRe_quayDraft v, gRe_planDraft v, gRe_tideDraft v, gRe_times v, q11.2.2)) (Int32.ofNat c) = some r5 := p1
      rw [p1']
      refine ⟨_, rfl, fun x x1 x2 x3 => ?_, fun z hz => ?_, fun _ => ⟨?_, ?_, ?_, rfl, p2⟩⟩
      · show upd q11.2.1 7 (s1 + 1) x = _
        rw [upd_ne _ _ x3]; exact oth x x1 x2 x3
      · rw [cl] at hz; cases hz
      · show upd q11.2.1 7 (s1 + 1) 3 = _
        rw [upd_ne _ _ (by decide)]; exact y1
      · show upd q11.2.1 7 (s1 + 1) 4 = _
        rw [upd_ne _ _ (by decide)]; exact y2
      · show (upd q11.2.1 7 (s1 + 1) 7).toInt = _
        rw [upd_eq]; exact toInt_succ f2 (by omega)
    · have cl := clR_no hy m1
      rw [if_neg m2]
      refine ⟨_, rfl, fun x x1 x2 x3 => ?_, fun z hz => ?_, fun hz => ?_⟩
      · show upd (upd (upd q11.2.1 7 s1) 3 1) 4 s1 x = _
        rw [upd_ne _ _ x2, upd_ne _ _ x1, upd_ne _ _ x3]; exact oth x x1 x2 x3
      · rw [cl] at hz; cases hz
        refine ⟨?_, (show (1 : Int) ≠ 0 by decide), ?_⟩
        · show (upd (upd (upd q11.2.1 7 s1) 3 1) 4 s1 3).toInt = _
          rw [upd_ne _ _ (by decide), upd_eq]; rfl
        · show (upd (upd (upd q11.2.1 7 s1) 3 1) 4 s1 4).toInt = _
          rw [upd_eq]; exact f2
      · rw [cl] at hz; cases hz
end
