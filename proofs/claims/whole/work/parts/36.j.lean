/-! THE PURE SIDE 46: a clause read by the class -/
theorem ne_m1 {c : Nat} (hc : c < 11) : ¬ Int32.ofNat c = -1 := fun h => by
  have := congrArg Int32.toInt h
  rw [Int32.toInt_ofNat_of_lt (by omega)] at this
  have t : (-1 : Int32).toInt = -1 := rfl
  rw [t] at this; omega
section
variable {n : Nat} {T : Nat → Int} {w : tTe}
/-- no such word -/
theorem c_rcNone {v : tRe} (hB : TxB n T) (h : cT w n T) {e f l : Nat} (hj : (gRe_ints v 7).toInt = (e : Int)) (he : e ≤ n) (hf : f ≤ l) (hl11 : l < 11) {p0 : Int32} (t0 : inb p0 3 = true) (t1 : zT_FIRST_CLAUSE.getD (ix p0) 0 = Int32.ofNat f) (t2 : zT_LAST_CLAUSE.getD (ix p0) 0 = Int32.ofNat l) (hX : ∀ c, f ≤ c → c ≤ l → ¬ wn T e (scan (isL T) n e - e) = wc c) : f_Re_readClause v w p0 = some (upd (upd (gRe_ints v) 3 1) 4 (gRe_ints v 7), gQu_ints (gRe_quayDraft v), gQu_places (gRe_quayDraft v), gQu_strengths (gRe_quayDraft v), gPl_ints (gRe_planDraft v), gPl_seconds (gRe_planDraft v), gPl_engines (gRe_planDraft v), gPl_wheels (gRe_planDraft v), gTi_ints (gRe_tideDraft v), gTi_heights (gRe_tideDraft v), gRe_times v, gRe_row v) := by
  obtain ⟨b1, b2, b3, -⟩ := scan_spec (isL T) he
  obtain ⟨r1, e1, g1⟩ := c_letters hB h hj he
  have g1 : r1.toInt = ((e + (scan (isL T) n e - e) : Nat) : Int) := by rw [g1]; omega
  obtain ⟨r2, e2, g2⟩ := c_clauseOf hB h hf hl11 t0 t1 t2 hj g1 (by omega) (fun i hi => of_decide_eq_true (b3 (e + i) (by omega) (by omega)))
  unfold f_Re_readClause
  rw [e1, Option.bind_some, e2, Option.bind_some]
  rcases g2 with ⟨c, c1, c2, c3, -⟩ | ⟨-, g⟩
  · exact absurd c3 (hX c c1 c2)
  · rw [if_pos g]; rfl
/-- the word was told often enough -/
theorem c_rcFull {v : tRe} (hB : TxB n T) (h : cT w n T) {e f l c : Nat} (hj : (gRe_ints v 7).toInt = (e : Int)) (he : e ≤ n) (hf : f ≤ c) (hcl : c ≤ l) (hl11 : l < 11) {p0 : Int32} (t0 : inb p0 3 = true) (t1 : zT_FIRST_CLAUSE.getD (ix p0) 0 = Int32.ofNat f) (t2 : zT_LAST_CLAUSE.getD (ix p0) 0 = Int32.ofNat l) (hX : wn T e (scan (isL T) n e - e) = wc c) (ht : ¬ gRe_times v c < zT_TIMES_MOST.getD c 0) : f_Re_readClause v w p0 = some (upd (upd (gRe_ints v) 3 3) 4 (gRe_ints v 7), gQu_ints (gRe_quayDraft v), gQu_places (gRe_quayDraft v), gQu_strengths (gRe_quayDraft v), gPl_ints (gRe_planDraft v), gPl_seconds (gRe_planDraft v), gPl_engines (gRe_planDraft v), gPl_wheels (gRe_planDraft v), gTi_ints (gRe_tideDraft v), gTi_heights (gRe_tideDraft v), gRe_times v, gRe_row v) := by
  obtain ⟨b1, b2, b3, -⟩ := scan_spec (isL T) he
  obtain ⟨r1, e1, g1⟩ := c_letters hB h hj he
  have g1 : r1.toInt = ((e + (scan (isL T) n e - e) : Nat) : Int) := by rw [g1]; omega
  obtain ⟨r2, e2, g2⟩ := c_clauseOf hB h (Nat.le_trans hf hcl) hl11 t0 t1 t2 hj g1 (by omega) (fun i hi => of_decide_eq_true (b3 (e + i) (by omega) (by omega)))
  obtain ⟨o1, o2⟩ := c_ofN ⟨c, by omega⟩
  have o1 : inb (Int32.ofNat c) 11 = true := o1
  have o2 : ix (Int32.ofNat c) = c := o2
  unfold f_Re_readClause
  rw [e1, Option.bind_some, e2, Option.bind_some]
  rcases g2 with ⟨c', c1, c2, c3, g⟩ | ⟨g, -⟩
  · have := wc_ne ⟨c', by omega⟩ ⟨c, by omega⟩ (c3.symm.trans hX)
    have : c' = c := this
    subst this
    rw [g, if_neg (ne_m1 (by omega)), if_pos o1, if_pos o1, o2, if_neg ht]; rfl
  · exact absurd hX (g c hf hcl)
end
