/-! THE PURE SIDE 59: told numbers and posts, the reference -/
section
variable {n b c : Nat} {T : Nat → Int} {g R : Nat → Int32}
def tkS (T : Nat → Int) (n b c : Nat) (g R : Nat → Int32) (j : Nat) (w : Int32 × (Nat → Int32) × (Nat → Int32)) : Prop := stg T n b c false g j (w.1, w.2.1) ∧ (∀ x, ¬ (fT c ≤ x ∧ x < fT c + j) → w.2.2 x = R x) ∧ (nfT T n b c false j = none → ∀ i, i < j → (w.2.2 (fT c + i)).toInt = nV T n (pN T n b i))
theorem tk_0 {w : Int32 × (Nat → Int32) × (Nat → Int32)} (h0 : w.1 = 0) (hg : w.2.1 = g) (hR : w.2.2 = R) (hb : (g 13).toInt = (b : Int)) : tkS T n b c g R 0 w := ⟨stg_0 h0 hg hb, fun x _ => by rw [hR], fun _ i hi => absurd hi (by omega)⟩
theorem tk_next {M : tMo} {w : Int32 × (Nat → Int32) × (Nat → Int32)} {j : Nat} (hB : TxB n T) (hM : gMo_ints M = w.2.1) (hR : gMo_readTold M = w.2.2) (hT : mT g (gMo_text M) n T) (hb : b ≤ n) (hs : tkS T n b c g R j w) (hn : nfT T n b c false j = none) {p1 p2 p3 : Int32} (h0 : p1.toInt = ((fT c + j : Nat) : Int)) (h13 : fT c + j < 13) (h1 : p2.toInt = cLo c j (nV T n b)) (h2 : p3.toInt = hiT c j) : ∃ r, f_Mo_take M p1 p2 p3 = some r ∧ tkS T n b c g R (j + 1) r := by
  unfold f_Mo_take
  refine bind_ex' (stg_num (w := (w.1, w.2.1)) hB hM hT hb hs.1 hn (fun z => by cases z.2) h1 h2) (fun r hr => ?_)
  rw [if_pos (inb_ok (by omega) (by omega)), ix_eq h0, hR]
  refine ⟨_, rfl, hr, fun x hx => ?_, fun hy i hi => ?_⟩
  · show upd w.2.2 (fT c + j) (r.2 16) x = _
    rw [upd_ne _ _ (by omega)]; exact hs.2.1 x (by omega)
  · show (upd w.2.2 (fT c + j) (r.2 16) (fT c + i)).toInt = _
    by_cases y : i = j
    · subst y; rw [upd_eq]; exact ((hr.2.2 hy).2.2.2 i rfl).1
    · rw [upd_ne _ _ (by omega)]; exact hs.2.2 hn i (by omega)
theorem tk_stay {w : Int32 × (Nat → Int32) × (Nat → Int32)} {j : Nat} {y : Int × Nat} (hs : tkS T n b c g R j w) (hy : nfT T n b c false j = some y) : tkS T n b c g R (j + 1) w :=
  ⟨stg_stay hs.1 hy, fun x hx => hs.2.1 x (by omega), fun hz => (by rw [nfT_some hy 1] at hz; cases hz)⟩
theorem stg_19 {w : Int32 × (Nat → Int32)} {j : Nat} {tak : Bool} (hs : stg T n b c tak g j w) (z : Int32) : stg T n b c tak (upd g 19 z) j (w.1, upd w.2 19 z) := by
  obtain ⟨s1, s2, s3⟩ := hs
  refine ⟨fun x x1 x2 x3 x4 => ?_, fun y hy => ⟨(s2 y hy).1, ?_⟩, fun hy => ⟨(s3 hy).1, ?_, ?_, fun i hi => ⟨?_, ?_⟩⟩⟩
  · show upd w.2 19 z x = upd g 19 z x
    by_cases y : x = 19
    · subst y; rw [upd_eq, upd_eq]
    · rw [upd_ne _ _ y, upd_ne _ _ y]; exact s1 x x1 x2 x3 x4
  · show (upd w.2 19 z 12).toInt = _
    rw [upd_ne _ _ (by decide)]; exact (s2 y hy).2
  · show upd w.2 19 z 12 = upd g 19 z 12
    rw [upd_ne _ _ (by decide), upd_ne _ _ (by decide)]; exact (s3 hy).2.1
  · show (upd w.2 19 z 13).toInt = _
    rw [upd_ne _ _ (by decide)]; exact (s3 hy).2.2.1
  · show (upd w.2 19 z 16).toInt = _
    rw [upd_ne _ _ (by decide)]; exact ((s3 hy).2.2.2 i hi).1
  · show (upd w.2 19 z 17).toInt = _
    rw [upd_ne _ _ (by decide)]; exact ((s3 hy).2.2.2 i hi).2
theorem lo_1 : (cLo 1 0 0 = 0 ∧ hiT 1 0 = 9999) ∧ (cLo 1 1 0 = 1 ∧ hiT 1 1 = 999) := by decide +kernel
theorem m_takePost {M : tMo} {np : Nat} {tak : Bool} (hB : TxB n T) (hM : gMo_ints M = g) (hT : mT g (gMo_text M) n T) (hb : b ≤ n) (g13 : (g 13).toInt = (b : Int)) (g19 : (g 19).toInt = (np : Int)) (h12 : np < 12) (ht : tak = true ↔ ∃ k, k < np ∧ (gMo_readX M k).toInt = nV T n b) : ∃ r, f_Mo_takePost M = some r ∧ (∃ z : Int32, z.toInt = ((np + 1 : Nat) : Int) ∧ stg T n b 1 tak (upd g 19 z) 2 (r.1, r.2.1) ∧ (∀ j, j < np → r.2.2.1 j = gMo_readX M j ∧ r.2.2.2 j = gMo_readStrong M j) ∧ (nfT T n b 1 tak 2 = none → (r.2.2.1 np).toInt = nV T n (pN T n b 0) ∧ (r.2.2.2 np).toInt = nV T n (pN T n b 1))) := by
  have lo := lo_1
  have lo0 : cLo 1 0 (nV T n b) = 0 := (cLo_c (by decide) _ 0).trans lo.1.1
  have lo1 : cLo 1 1 (nV T n b) = 1 := (cLo_c (by decide) _ 0).trans lo.2.1
  unfold f_Mo_takePost
  refine bind_ex' (stg_num (M := M) (p1 := 0) (p2 := 9999) (c := 1) (tak := false) (k := b) (w := (0, g)) (j := 0) hB hM hT hb (stg_0 rfl rfl g13) rfl (fun z => (by cases z.2)) (by rw [lo0]; rfl) (by rw [lo.1.2]; rfl)) (fun r1 h1 => ?_)
  have f19 : r1.2 19 = g 19 := h1.1 19 (by decide) (by decide) (by decide) (by decide)
  have loop : ∃ q3, lp (fB_Mo_takePost_11 M) LF (r1.1, 0, r1.2) = some q3 ∧ stg T n b 1 tak g 1 (q3.1, q3.2.2) := by
    refine lp_inv (N := np) (I := fun i t => t.2.1.toInt = (i : Int) ∧ ((t.1 = 0 ∧ t.2.2 = r1.2 ∧ nfT T n b 1 false 1 = none ∧ r1.1 = 0 ∧ ∀ j, j < i → ¬ (gMo_readX M j).toInt = nV T n b) ∨ (¬ t.1 = 0 ∧ stg T n b 1 tak g 1 (t.1, t.2.2)))) (by omega) ?_ ?_ (i := 0) (by omega) ⟨rfl, ?_⟩
    · rintro i hi ⟨t, j, f⟩ ih ⟨a1, a2⟩ go
      have a1 : j.toInt = (i : Int) := a1
      have ff : f 19 = g 19 := by
        rcases a2 with a2 | a2
        · have e : f = r1.2 := a2.2.1
          rw [e]; exact f19
        · exact a2.2.1 19 (by decide) (by decide) (by decide) (by decide)
      simp only [fB_Mo_takePost_11]
      rw [if_neg (show ¬ f 19 ≤ j from lt_lit a1 (by rw [ff]; exact g19) hi)]
      rcases a2 with ⟨t0, e, nf, r0, a3⟩ | ⟨t0, a3⟩
      · have t0 : t = 0 := t0
        have e : f = r1.2 := e
        subst e
        have v16 : (r1.2 16).toInt = nV T n b := ((h1.2.2 nf).2.2.2 0 rfl).1
        rw [if_pos t0, if_pos (inb_ok (by omega) (by omega)), ix_eq a1]
        by_cases y : gMo_readX M i = r1.2 16
        · rw [if_pos y]
          refine zlet_ex fun r11 h11 => ?_
          have e1 : r11 = ((4 : Int32), upd r1.2 12 (r1.2 17)) := h11
          subst e1
          exact go _ ⟨toInt_succ a1 (by omega), Or.inr ⟨(show ¬ (4 : Int32) = 0 by decide), stg_4 h1 nf (ht.mpr ⟨i, hi, by rw [y]; exact v16⟩)⟩⟩
        · rw [if_neg y]
          refine go _ ⟨toInt_succ a1 (by omega), Or.inl ⟨rfl, rfl, nf, r0, fun k hk => ?_⟩⟩
          by_cases z : k = i
          · subst z; intro z2; exact y (Int32.toInt_inj.mp (z2.trans v16.symm))
          · exact a3 k (by omega)
      · have t0 : ¬ t = 0 := t0
        rw [if_neg t0]
        exact ⟨_, rfl, a3⟩
    · rintro ⟨t, j, f⟩ ih ⟨a1, a2⟩
      have a1 : j.toInt = (np : Int) := a1
      have ff : f 19 = g 19 := by
        rcases a2 with a2 | a2
        · have e : f = r1.2 := a2.2.1
          rw [e]; exact f19
        · exact a2.2.1 19 (by decide) (by decide) (by decide) (by decide)
      simp only [fB_Mo_takePost_11]
      rw [if_pos (show f 19 ≤ j from ge_lit a1 (by rw [ff]; exact g19) (Nat.le_refl _))]
      refine ⟨_, rfl, ?_⟩
      rcases a2 with ⟨t0, e, nf, r0, a3⟩ | ⟨t0, a3⟩
      · have t0 : t = 0 := t0
        have e : f = r1.2 := e
        subst e
        have : (t, r1.2) = r1 := Prod.ext (Eq.trans t0 r0.symm) rfl
        show stg T n b 1 tak g 1 (t, r1.2)
        rw [this]
        exact stg_tak h1 (fun z => by obtain ⟨k, k1, k2⟩ := ht.mp z; exact a3 k k1 k2)
      · exact a3
    · rcases stg_le h1 with ⟨a1, -, a3⟩ | ⟨y, a1, -, a3⟩
      · exact Or.inl ⟨a3, rfl, a1, a3, fun j hj => absurd hj (by omega)⟩
      · exact Or.inr ⟨a3, stg_bad h1 a1⟩
  refine bind_ex' loop (fun q3 h3 => ?_)
  have s19 : (q3.2.2 19).toInt = (np : Int) := by rw [h3.1 19 (by decide) (by decide) (by decide) (by decide)]; exact g19
  rw [if_pos (inb_ok (by omega) (by omega)), ix_eq s19]
  refine bind_ex' (stg_next (j := 0) (w := (q3.1, q3.2.2)) (M := (q3.2.2, gMo_told M, gMo_postX M, gMo_postStrong M, gMo_atRow M, gMo_heights M, gMo_ship M, gMo_lines M, gMo_text M, gMo_said M, gMo_readTold M, upd (gMo_readX M) np (q3.2.2 16), gMo_readStrong M, gMo_readRow M, gMo_parting M, gMo_wasShip M, gMo_wasLines M, gMo_worst M, gMo_logRow M, gMo_images M, gMo_isKept M)) hB rfl hT hb h3 (p1 := 1) (p2 := 999) (by rw [lo1]; rfl) (by rw [lo.2.2]; rfl)) (fun w13 h13 => ?_)
  have s13 : (w13.2 19).toInt = (np : Int) := by rw [h13.1 19 (by decide) (by decide) (by decide) (by decide)]; exact g19
  rw [if_pos (inb_ok (by omega) (by omega)), ix_eq s13]
  refine zlet_ex fun z18 h18 => ?_
  refine ⟨_, rfl, z18, by rw [h18]; exact toInt_succ s13 (by omega), stg_19 h13 z18, fun j hj => ⟨upd_ne _ _ (by omega), upd_ne _ _ (by omega)⟩, fun hy => ⟨?_, ?_⟩⟩
  · show (upd (gMo_readX M) np (q3.2.2 16) np).toInt = _
    rw [upd_eq]; exact ((h3.2.2 (nfT_0 hy).1).2.2.2 0 rfl).1
  · show (upd (gMo_readStrong M) np (w13.2 16) np).toInt = _
    rw [upd_eq]; exact ((h13.2.2 hy).2.2.2 1 rfl).1
end
