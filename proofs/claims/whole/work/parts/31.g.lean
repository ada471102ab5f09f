/-! THE PURE SIDE 16: the reference's searches -/
section
variable {m : tMo} {n : Nat} {T E R : Nat → Int} {q px ps s L : Nat → Int} {c : Int}
theorem m_astern (hQ : mQ (gMo_ints m) (gMo_told m) (gMo_postX m) (gMo_postStrong m) q px ps) (hB : QB q px ps) (hS : mS (gMo_ship m) s) (hR : RB c s) (hc : c ≤ 800000) (hL : LB q L) (hl : mL (gMo_lines m) L) :
    ∃ r, f_Mo_astern m = some r ∧ (leastI (asternP q px ps s L) 120 r.1.toInt ∧ mS r.2.1 s ∧ mL r.2.2.1 L) := by
  unfold f_Mo_astern
  refine bind_ex' (m_save m) (fun r1 h1 => ?_)
  have hw : (r1.1 10).toInt = s 10 := by rw [h1.1 10 (by decide)]; exact hS.harm
  have loop : ∃ e, lp (fB_Mo_astern_8 m r1) LF (-1, 0, gMo_ship m, gMo_lines m, gMo_parting m) = some e ∧ (leastI (asternP q px ps s L) 120 e.1.toInt ∧ mS e.2.2.1 s ∧ mL e.2.2.2.1 L) := by
    refine lp_inv (N := 121) (I := fun i z => z.2.1.toInt = (i : Int) ∧ mS z.2.2.1 s ∧ mL z.2.2.2.1 L ∧ ((z.1.toInt = -1 ∧ ∀ t', t' < i → ¬ asternP q px ps s L t') ∨ (∃ t : Nat, t ≤ 120 ∧ z.1.toInt = (t : Int) ∧ asternP q px ps s L t ∧ ∀ t', t' < t → ¬ asternP q px ps s L t'))) (by decide) ?_ ?_ (i := 0) (by decide) ⟨rfl, hS, hl, Or.inl ⟨rfl, fun t' h => absurd h (by omega)⟩⟩
    · rintro i hi ⟨fd, j, f, g, pt⟩ ih ⟨a1, a2, a3, a4⟩ go
      have a1 : j.toInt = (i : Int) := a1
      have a4 : (fd.toInt = -1 ∧ ∀ t', t' < i → ¬ asternP q px ps s L t') ∨ (∃ t : Nat, t ≤ 120 ∧ fd.toInt = (t : Int) ∧ asternP q px ps s L t ∧ ∀ t', t' < t → ¬ asternP q px ps s L t') := a4
      have c1 : ¬ (120 : Int32) < j := by rw [Int32.lt_iff_toInt_lt, a1]; show ¬ (120 : Int) < _; omega
      simp only [fB_Mo_astern_8]
      rw [if_neg c1]
      rcases a4 with ⟨e1, e2⟩ | ⟨t, t1, t2, t3, t4⟩
      · have c2 : ¬ (0 : Int32) ≤ fd := by rw [Int32.le_iff_toInt_le, e1]; decide
        rw [if_neg c2]
        refine bind_ex' (m_isAstern (m := (gMo_ints m, gMo_told m, gMo_postX m, gMo_postStrong m, gMo_atRow m, gMo_heights m, f, g, gMo_text m, gMo_said m, gMo_readTold m, gMo_readX m, gMo_readStrong m, gMo_readRow m, pt, r1.1, r1.2, gMo_worst m, gMo_logRow m, gMo_images m, gMo_isKept m)) hQ hB a2 hR hc hL a3 hw a1 (by omega)) (fun r9 h9 => ?_)
        refine zlet_ex fun w11 h11 => ?_
        refine bind_ex' (m_back _) (fun r14 h14 => ?_)
        refine go _ ⟨toInt_succ a1 (by omega), ?_, ?_, ?_⟩
        · exact hS.of_eq (fun k hk => (h14.1 k hk).trans (h1.1 k hk))
        · exact hl.of_eq (fun k hk => (h14.2 k hk).trans (h1.2 k hk))
        · rcases h9 with ⟨f1, f2⟩ | ⟨f1, f2⟩
          · rw [if_neg (by rw [f1]; decide)] at h11
            exact Or.inr ⟨i, by omega, by show w11.toInt = _; rw [h11]; exact a1, f2, e2⟩
          · rw [if_pos f1] at h11
            refine Or.inl ⟨by show w11.toInt = _; rw [h11]; rfl, fun t' ht => ?_⟩
            by_cases e : t' = i
            · subst e; exact f2
            · exact e2 t' (by omega)
      · have c2 : (0 : Int32) ≤ fd := by rw [Int32.le_iff_toInt_le, t2]; show (0 : Int) ≤ _; omega
        rw [if_pos c2]
        exact ⟨_, rfl, Or.inl ⟨t, t1, t2, t3, t4⟩, a2, a3⟩
    · rintro ⟨fd, j, f, g, pt⟩ ih ⟨a1, a2, a3, a4⟩
      have a1 : j.toInt = ((121 : Nat) : Int) := a1
      have c1 : (120 : Int32) < j := by rw [Int32.lt_iff_toInt_lt, a1]; decide
      simp only [fB_Mo_astern_8]
      rw [if_pos c1]
      refine ⟨_, rfl, ?_, a2, a3⟩
      rcases a4 with ⟨e1, e2⟩ | ⟨t, t1, t2, t3, t4⟩
      · exact Or.inr ⟨e1, fun t ht => e2 t (by omega)⟩
      · exact Or.inl ⟨t, t1, t2, t3, t4⟩
  refine bind_ex' loop (fun q3 h3 => ⟨_, rfl, h3⟩)
theorem m_isOff (hQ : mQ (gMo_ints m) (gMo_told m) (gMo_postX m) (gMo_postStrong m) q px ps) (hB : QB q px ps) (hS : mS (gMo_ship m) s) (hR : RB c s) (hc : c ≤ 800000) (hL : LB q L) (hl : mL (gMo_lines m) L) (hw : (gMo_wasShip m 10).toInt = s 10) {p : Int32} {t : Nat} (hp : p.toInt = (t : Int)) (ht : t ≤ 120) :
    ∃ r, f_Mo_isOff m p = some r ∧ okI (offP q px ps s L t) r.1 := by
  obtain ⟨hR2, hL2, -, -⟩ := runI_b hB noI_RB hR hL t
  have mono : ∀ x : Int, (runI q px ps noI s L t).1 10 ≤ x → x = s 10 → (runI q px ps noI s L t).1 10 = s 10 := by
    intro x h1 h2
    have m1 := runI_harm hB noI_RB no10 hR hL 0 t
    rw [show 0 + t = t by omega] at m1
    have m0 : (runI q px ps noI s L 0).1 10 = s 10 := rfl
    omega
  have hR0 := eng_RB hR2 (x := -3) (by decide) (by decide)
  have e10 := eng_10 (runI q px ps noI s L t).1 (-3)
  unfold f_Mo_isOff
  have hpe := (rp.of 120 hp (by omega) (by omega)).add (rp.lit 120 120 (a := 120) rfl rfl) (by decide)
  have hpe : (p + 120).toInt = ((t + 120 : Nat) : Int) := by rw [hpe.1]; omega
  have loop : ∃ e, lp (fB_Mo_isOff_4 m p) LF (0, 0, gMo_ship m, gMo_lines m, gMo_parting m) = some e ∧ mS e.2.2.1 (runI q px ps noI (us (us (runI q px ps noI s L t).1 6 (-3)) 7 0) (runI q px ps noI s L t).2.1 120).1 := by
    refine lp_inv (N := t + 120) (I := fun i y => y.2.1.toInt = (i : Int) ∧ ((i ≤ t ∧ mS y.2.2.1 (runI q px ps noI s L i).1 ∧ mL y.2.2.2.1 (runI q px ps noI s L i).2.1) ∨ (∃ k : Nat, i = t + k ∧ 0 < k ∧ mS y.2.2.1 (runI q px ps noI (us (us (runI q px ps noI s L t).1 6 (-3)) 7 0) (runI q px ps noI s L t).2.1 k).1 ∧ mL y.2.2.2.1 (runI q px ps noI (us (us (runI q px ps noI s L t).1 6 (-3)) 7 0) (runI q px ps noI s L t).2.1 k).2.1))) (by omega) ?_ ?_ (i := 0) (by omega) ⟨rfl, Or.inl ⟨by omega, hS, hl⟩⟩
    · rintro i hi ⟨n, j, f, g, pt⟩ ih ⟨a2, a3⟩ go
      have a2 : j.toInt = (i : Int) := a2
      simp only [fB_Mo_isOff_4]
      rw [if_neg (lt_lit a2 hpe hi)]
      refine zlet_ex fun w7 h7 => ?_
      rcases a3 with ⟨k1, k2, k3⟩ | ⟨k, k1, k2, k3, k4⟩
      · obtain ⟨b1, b2, b3, b4⟩ := runI_b hB noI_RB hR hL i
        by_cases e : i = t
        · subst e
          rw [if_pos (Int32.toInt_inj.mp (a2.trans hp.symm))] at h7
          have k5 : mS w7 (us (us (runI q px ps noI s L i).1 6 (-3)) 7 0) := by
            rw [h7]; exact k2.eng rfl rfl
          refine bind_ex' (m_second' rfl k5 k3 hQ hR0 (by omega) hB hL2) (fun r9 h9 => ?_)
          refine zlet_ex fun z10 h10 => ?_
          exact go _ ⟨toInt_succ a2 (by omega), Or.inr ⟨1, rfl, by decide, h9.2.1, h9.2.2⟩⟩
        · rw [if_neg (fun g => e (by rw [g, hp] at a2; omega))] at h7
          have k5 : mS w7 (runI q px ps noI s L i).1 := by rw [h7]; exact k2
          refine bind_ex' (m_second' rfl k5 k3 hQ b1 (by omega) hB b2) (fun r9 h9 => ?_)
          refine zlet_ex fun z10 h10 => ?_
          exact go _ ⟨toInt_succ a2 (by omega), Or.inl ⟨by omega, h9.2.1, h9.2.2⟩⟩
      · obtain ⟨b1, b2, b3, b4⟩ := runI_b hB noI_RB hR0 hL2 k
        rw [if_neg (fun g => by rw [g, hp] at a2; omega)] at h7
        have k5 : mS w7 (runI q px ps noI (us (us (runI q px ps noI s L t).1 6 (-3)) 7 0) (runI q px ps noI s L t).2.1 k).1 := by rw [h7]; exact k3
        refine bind_ex' (m_second' rfl k5 k4 hQ b1 (by omega) hB b2) (fun r9 h9 => ?_)
        refine zlet_ex fun z10 h10 => ?_
        exact go _ ⟨toInt_succ a2 (by omega), Or.inr ⟨k + 1, by omega, by omega, h9.2.1, h9.2.2⟩⟩
    · rintro ⟨n, j, f, g, pt⟩ ih ⟨a2, a3⟩
      have a2 : j.toInt = ((t + 120 : Nat) : Int) := a2
      simp only [fB_Mo_isOff_4]
      rw [if_pos (ge_lit a2 hpe (by omega))]
      rcases a3 with ⟨k1, k2, k3⟩ | ⟨k, k1, k2, k3, k4⟩
      · omega
      · have e : k = 120 := by omega
        subst e
        exact ⟨_, rfl, k3⟩
  refine bind_ex' loop (fun q2 h2 => ⟨_, rfl, ?_⟩)
  have m1 := runI_harm hB noI_RB no10 hR0 hL2 0 120
  rw [show 0 + 120 = 120 by decide] at m1
  have m0 : (runI q px ps noI (us (us (runI q px ps noI s L t).1 6 (-3)) 7 0) (runI q px ps noI s L t).2.1 0).1 10 = (runI q px ps noI s L t).1 10 := e10
  have key : ((runI q px ps noI (us (us (runI q px ps noI s L t).1 6 (-3)) 7 0) (runI q px ps noI s L t).2.1 120).1 10 = s 10) ↔ offP q px ps s L t := by
    unfold offP awayP
    constructor
    · intro g
      have := mono _ (by omega) g
      exact ⟨this, by omega⟩
    · intro g
      have g1 := g.1
      have g2 := g.2
      omega
  have u := m_unharmed (m := (gMo_ints m, gMo_told m, gMo_postX m, gMo_postStrong m, gMo_atRow m, gMo_heights m, q2.2.2.1, q2.2.2.2.1, gMo_text m, gMo_said m, gMo_readTold m, gMo_readX m, gMo_readStrong m, gMo_readRow m, q2.2.2.2.2, gMo_wasShip m, gMo_wasLines m, gMo_worst m, gMo_logRow m, gMo_images m, gMo_isKept m)) h2.harm hw
  rcases u with ⟨u1, u2⟩ | ⟨u1, u2⟩
  · exact Or.inl ⟨key.mp u1, u2⟩
  · exact Or.inr ⟨fun g => u1 (key.mpr g), u2⟩
theorem m_offs (hQ : mQ (gMo_ints m) (gMo_told m) (gMo_postX m) (gMo_postStrong m) q px ps) (hB : QB q px ps) (hS : mS (gMo_ship m) s) (hR : RB c s) (hc : c ≤ 800000) (hL : LB q L) (hl : mL (gMo_lines m) L) :
    ∃ r, f_Mo_off m = some r ∧ (greatI (offP q px ps s L) 120 r.1.toInt ∧ mS r.2.1 s ∧ mL r.2.2.1 L) := by
  unfold f_Mo_off
  refine bind_ex' (m_save m) (fun r1 h1 => ?_)
  have hw : (r1.1 10).toInt = s 10 := by rw [h1.1 10 (by decide)]; exact hS.harm
  have loop : ∃ e, lp (fB_Mo_off_9 m r1) LF (-1, 120, gMo_ship m, gMo_lines m, gMo_parting m) = some e ∧ (greatI (offP q px ps s L) 120 e.1.toInt ∧ mS e.2.2.1 s ∧ mL e.2.2.2.1 L) := by
    refine lp_inv (N := 121) (I := fun i z => z.2.1.toInt = 120 - (i : Int) ∧ mS z.2.2.1 s ∧ mL z.2.2.2.1 L ∧ ((z.1.toInt = -1 ∧ ∀ t', t' ≤ 120 → 121 - i ≤ t' → ¬ offP q px ps s L t') ∨ (∃ t : Nat, t ≤ 120 ∧ z.1.toInt = (t : Int) ∧ offP q px ps s L t ∧ ∀ t', t < t' → t' ≤ 120 → ¬ offP q px ps s L t'))) (by decide) ?_ ?_ (i := 0) (by decide) ⟨rfl, hS, hl, Or.inl ⟨rfl, fun t' h h' => absurd h' (by omega)⟩⟩
    · rintro i hi ⟨fd, j, f, g, pt⟩ ih ⟨a1, a2, a3, a4⟩ go
      have a1 : j.toInt = 120 - (i : Int) := a1
      have a4 : (fd.toInt = -1 ∧ ∀ t', t' ≤ 120 → 121 - i ≤ t' → ¬ offP q px ps s L t') ∨ (∃ t : Nat, t ≤ 120 ∧ fd.toInt = (t : Int) ∧ offP q px ps s L t ∧ ∀ t', t < t' → t' ≤ 120 → ¬ offP q px ps s L t') := a4
      have fe : ((120 - i : Nat) : Int) = 120 - (i : Int) := by omega
      rw [← fe] at a1
      have c1 : ¬ j < 0 := by rw [Int32.lt_iff_toInt_lt, a1]; show ¬ ((120 - i : Nat) : Int) < 0; omega
      simp only [fB_Mo_off_9]
      rw [if_neg c1]
      rcases a4 with ⟨e1, e2⟩ | ⟨t, t1, t2, t3, t4⟩
      · have c2 : ¬ (0 : Int32) ≤ fd := by rw [Int32.le_iff_toInt_le, e1]; decide
        rw [if_neg c2]
        refine bind_ex' (m_isOff (m := (gMo_ints m, gMo_told m, gMo_postX m, gMo_postStrong m, gMo_atRow m, gMo_heights m, f, g, gMo_text m, gMo_said m, gMo_readTold m, gMo_readX m, gMo_readStrong m, gMo_readRow m, pt, r1.1, r1.2, gMo_worst m, gMo_logRow m, gMo_images m, gMo_isKept m)) hQ hB a2 hR hc hL a3 hw a1 (by omega)) (fun r9 h9 => ?_)
        refine zlet_ex fun w11 h11 => ?_
        refine bind_ex' (m_back _) (fun r14 h14 => ?_)
        refine go _ ⟨?_, ?_, ?_, ?_⟩
        · show (j + (-1)).toInt = _
          rw [toInt_pred a1 (by omega)]; omega
        · exact hS.of_eq (fun k hk => (h14.1 k hk).trans (h1.1 k hk))
        · exact hl.of_eq (fun k hk => (h14.2 k hk).trans (h1.2 k hk))
        · rcases h9 with ⟨f2, f1⟩ | ⟨f2, f1⟩
          · rw [if_neg (by rw [f1]; decide)] at h11
            exact Or.inr ⟨120 - i, by omega, by show w11.toInt = _; rw [h11]; exact a1, f2, fun t' g1 g2 => e2 t' g2 (by omega)⟩
          · rw [if_pos f1] at h11
            refine Or.inl ⟨by show w11.toInt = _; rw [h11]; rfl, fun t' g1 g2 => ?_⟩
            by_cases e : t' = 120 - i
            · subst e; exact f2
            · exact e2 t' g1 (by omega)
      · have c2 : (0 : Int32) ≤ fd := by rw [Int32.le_iff_toInt_le, t2]; show (0 : Int) ≤ _; omega
        rw [if_pos c2]
        exact ⟨_, rfl, Or.inl ⟨t, t1, t2, t3, t4⟩, a2, a3⟩
    · rintro ⟨fd, j, f, g, pt⟩ ih ⟨a1, a2, a3, a4⟩
      have a1 : j.toInt = -1 := a1
      have c1 : j < 0 := by rw [Int32.lt_iff_toInt_lt, a1]; decide
      simp only [fB_Mo_off_9]
      rw [if_pos c1]
      refine ⟨_, rfl, ?_, a2, a3⟩
      rcases a4 with ⟨e1, e2⟩ | ⟨t, t1, t2, t3, t4⟩
      · exact Or.inr ⟨e1, fun t ht => e2 t ht (by omega)⟩
      · exact Or.inl ⟨t, t1, t2, t3, t4⟩
  refine bind_ex' loop (fun q3 h3 => ⟨_, rfl, h3⟩)
theorem m_isIn (hQ : mQ (gMo_ints m) (gMo_told m) (gMo_postX m) (gMo_postStrong m) q px ps) (hB : QB q px ps) (hP : PB n T E R) (hu : mP (gMo_ints m) (gMo_atRow m) n T E R) (hS : mS (gMo_ship m) s) (hR : RB c s) (hc : c ≤ 900000) (hL : LB q L) (hl : mL (gMo_lines m) L) (hw : (gMo_wasShip m 10).toInt = s 10) {p : Int32} {N : Nat} (hp : p.toInt = (N : Int)) (h2 : N ≤ 600) :
    ∃ r, f_Mo_isIn m p = some r ∧ (okI (planP q px ps n T E R s L N) r.1 ∧ (∀ k, k < 13 → r.2.1 k = gMo_wasShip m k) ∧ (∀ k, k < 24 → r.2.2.1 k = gMo_wasLines m k)) := by
  unfold f_Mo_isIn
  refine bind_ex' (m_plan hQ hB hP hu hS hR hc hL hl hp h2) (fun r1 h1 => ?_)
  obtain ⟨b1, b2, b3, b4⟩ := runI_b hB (plI_RB hP) hR hL N
  refine zlet_ex fun w3 h3 => ?_
  have k3 : okI (planP q px ps n T E R s L N) w3 := by
    rw [h3]
    unfold planP
    have a1 := m_safe (m := (gMo_ints m, gMo_told m, gMo_postX m, gMo_postStrong m, gMo_atRow m, gMo_heights m, r1.2.1, r1.2.2.1, gMo_text m, gMo_said m, gMo_readTold m, gMo_readX m, gMo_readStrong m, gMo_readRow m, r1.2.2.2, gMo_wasShip m, gMo_wasLines m, gMo_worst m, gMo_logRow m, gMo_images m, gMo_isKept m)) hQ hB h1.2.1 b1
    have a2 := m_unharmed (m := (gMo_ints m, gMo_told m, gMo_postX m, gMo_postStrong m, gMo_atRow m, gMo_heights m, r1.2.1, r1.2.2.1, gMo_text m, gMo_said m, gMo_readTold m, gMo_readX m, gMo_readStrong m, gMo_readRow m, r1.2.2.2, gMo_wasShip m, gMo_wasLines m, gMo_worst m, gMo_logRow m, gMo_images m, gMo_isKept m)) h1.2.1.harm hw
    rcases a1 with ⟨e1, e2⟩ | ⟨e1, e2⟩
    · rw [e2, if_neg (show ¬ (1 : Int32) = 0 by decide)]
      rcases a2 with ⟨f1, f2⟩ | ⟨f1, f2⟩
      · rw [f2, if_neg (show ¬ (1 : Int32) = 0 by decide)]; exact Or.inl ⟨⟨f1, e1⟩, rfl⟩
      · rw [f2, if_pos rfl]; exact Or.inr ⟨fun g => f1 g.1, rfl⟩
    · rw [e2, if_pos rfl]; exact Or.inr ⟨fun g => e1 g.2, rfl⟩
  refine bind_ex' (m_back _) (fun r9 h9 => ?_)
  exact ⟨_, rfl, k3, h9.1, h9.2⟩
theorem mQ.us {i t x z : Nat → Int32} (hQ : mQ i t x z q px ps) {k : Nat} {y : Int} {a : Int32} (hk : 13 ≠ k) (ha : a.toInt = y) : mQ i (upd t k a) x z (us q k y) px ps := by
  refine ⟨fun j hj => ?_, ?_, fun j hj => ?_⟩
  · by_cases e : j = k
    · subst e; rw [upd_eq, us_eq]; exact ha
    · rw [upd_ne _ _ e, us_ne _ _ e]; exact hQ.1 j hj
  · rw [us_ne _ _ hk]; exact hQ.2.1
  · rw [us_ne _ _ hk] at hj; exact hQ.2.2 j hj
theorem m_wind (hQ : mQ (gMo_ints m) (gMo_told m) (gMo_postX m) (gMo_postStrong m) q px ps) (hB : QB q px ps) (hP : PB n T E R) (hu : mP (gMo_ints m) (gMo_atRow m) n T E R) (hS : mS (gMo_ship m) s) (hR : RB c s) (hc : c ≤ 800000) (hL : LB q L) (hl : mL (gMo_lines m) L) {p : Int32} {N : Nat} (hp : p.toInt = (N : Int)) (h1' : 1 ≤ N) (h2 : N ≤ 300) :
    ∃ r, f_Mo_wind m p = some r ∧ (greatI (fun f => planP (us q 10 (f : Int)) px ps n T E R s L N) 99 r.1.toInt ∧ mQ (gMo_ints m) r.2.1 (gMo_postX m) (gMo_postStrong m) q px ps ∧ mS r.2.2.1 s ∧ mL r.2.2.2.1 L) := by
  unfold f_Mo_wind f_Mo_isSpan
  rw [m_in (rp.of 300 hp (by omega) (by omega)).long (rq.lit 1 1 (a := 1) rfl rfl) (rq.lit 300 300 (a := 300) rfl rfl), if_pos (show (1 : Int) ≤ N ∧ (N : Int) ≤ 300 by omega), if_neg (show ¬ (1 : Int32) = 0 by decide)]
  refine bind_ex' (m_save m) (fun r1 h1 => ?_)
  have hw : (r1.1 10).toInt = s 10 := by rw [h1.1 10 (by decide)]; exact hS.harm
  have loop : ∃ e, lp (fB_Mo_wind_28 m p r1) LF (-1, 99, gMo_told m, gMo_ship m, gMo_lines m, gMo_parting m) = some e ∧ (greatI (fun f => planP (us q 10 (f : Int)) px ps n T E R s L N) 99 e.1.toInt ∧ (∃ q' : Nat → Int, mQ (gMo_ints m) e.2.2.1 (gMo_postX m) (gMo_postStrong m) q' px ps ∧ us q' 10 (q 10) = q) ∧ mS e.2.2.2.1 s ∧ mL e.2.2.2.2.1 L) := by
    refine lp_inv (N := 100) (I := fun i z => z.2.1.toInt = 99 - (i : Int) ∧ (∃ q' : Nat → Int, mQ (gMo_ints m) z.2.2.1 (gMo_postX m) (gMo_postStrong m) q' px ps ∧ us q' 10 (q 10) = q) ∧ mS z.2.2.2.1 s ∧ mL z.2.2.2.2.1 L ∧ ((z.1.toInt = -1 ∧ ∀ t' : Nat, t' ≤ 99 → 100 - i ≤ t' → ¬ planP (us q 10 (t' : Int)) px ps n T E R s L N) ∨ (∃ t : Nat, t ≤ 99 ∧ z.1.toInt = (t : Int) ∧ planP (us q 10 (t : Int)) px ps n T E R s L N ∧ ∀ t' : Nat, t < t' → t' ≤ 99 → ¬ planP (us q 10 (t' : Int)) px ps n T E R s L N))) (by decide) ?_ ?_ (i := 0) (by decide) ⟨rfl, ⟨q, hQ, us_self q 10⟩, hS, hl, Or.inl ⟨rfl, fun t' h h' => absurd h' (by omega)⟩⟩
    · rintro i hi ⟨fd, j, td, f, g, pt⟩ ih ⟨a1, ⟨q', aq, aq'⟩, a2, a3, a4⟩ go
      have a1 : j.toInt = 99 - (i : Int) := a1
      have aq : mQ (gMo_ints m) td (gMo_postX m) (gMo_postStrong m) q' px ps := aq
      have a4 : (fd.toInt = -1 ∧ ∀ t' : Nat, t' ≤ 99 → 100 - i ≤ t' → ¬ planP (us q 10 (t' : Int)) px ps n T E R s L N) ∨ (∃ t : Nat, t ≤ 99 ∧ fd.toInt = (t : Int) ∧ planP (us q 10 (t : Int)) px ps n T E R s L N ∧ ∀ t' : Nat, t < t' → t' ≤ 99 → ¬ planP (us q 10 (t' : Int)) px ps n T E R s L N) := a4
      have fe : ((99 - i : Nat) : Int) = 99 - (i : Int) := by omega
      rw [← fe] at a1
      have c1 : ¬ j < 0 := by rw [Int32.lt_iff_toInt_lt, a1]; show ¬ ((99 - i : Nat) : Int) < 0; omega
      simp only [fB_Mo_wind_28]
      rw [if_neg c1]
      rcases a4 with ⟨e1, e2⟩ | ⟨t, t1, t2, t3, t4⟩
      · have c2 : ¬ (0 : Int32) ≤ fd := by rw [Int32.le_iff_toInt_le, e1]; decide
        rw [if_neg c2]
        have qe : us q' 10 ((99 - i : Nat) : Int) = us q 10 ((99 - i : Nat) : Int) := by
          have := us_us q' 10 (q 10) ((99 - i : Nat) : Int)
          rw [aq'] at this
          exact this.symm
        have hQ' := aq.us (k := 10) (by decide) a1
        rw [qe] at hQ'
        refine bind_ex' (m_isIn (m := (gMo_ints m, upd td 10 j, gMo_postX m, gMo_postStrong m, gMo_atRow m, gMo_heights m, f, g, gMo_text m, gMo_said m, gMo_readTold m, gMo_readX m, gMo_readStrong m, gMo_readRow m, pt, r1.1, r1.2, gMo_worst m, gMo_logRow m, gMo_images m, gMo_isKept m)) hQ' (hB.wind (by omega) (by omega)) hP hu a2 hR (by omega) (hL.us (by decide)) a3 hw hp (by omega)) (fun r9 h9 => ?_)
        have kS : mS r9.2.1 s := hS.of_eq (fun k hk => (h9.2.1 k hk).trans (h1.1 k hk))
        have kL : mL r9.2.2.1 L := hl.of_eq (fun k hk => (h9.2.2 k hk).trans (h1.2 k hk))
        have kq : ∃ q' : Nat → Int, mQ (gMo_ints m) (upd td 10 j) (gMo_postX m) (gMo_postStrong m) q' px ps ∧ us q' 10 (q 10) = q := ⟨_, hQ', by rw [us_us]; exact us_self q 10⟩
        refine ite_ex h9.1 (fun f2 => ?_) (fun f2 => ?_)
        · refine go _ ⟨?_, kq, kS, kL, Or.inl ⟨rfl, fun t' g1 g2 => ?_⟩⟩
          · show (j + (-1)).toInt = _
            rw [toInt_pred a1 (by omega)]; omega
          by_cases e : t' = 99 - i
          · subst e; exact f2
          · exact e2 t' g1 (by omega)
        · refine go _ ⟨?_, kq, kS, kL, Or.inr ⟨99 - i, by omega, a1, f2, fun t' g1 g2 => e2 t' g2 (by omega)⟩⟩
          show (j + (-1)).toInt = _
          rw [toInt_pred a1 (by omega)]; omega
      · have c2 : (0 : Int32) ≤ fd := by rw [Int32.le_iff_toInt_le, t2]; show (0 : Int) ≤ _; omega
        rw [if_pos c2]
        exact ⟨_, rfl, Or.inl ⟨t, t1, t2, t3, t4⟩, ⟨q', aq, aq'⟩, a2, a3⟩
    · rintro ⟨fd, j, td, f, g, pt⟩ ih ⟨a1, aq, a2, a3, a4⟩
      have a1 : j.toInt = -1 := a1
      have c1 : j < 0 := by rw [Int32.lt_iff_toInt_lt, a1]; decide
      simp only [fB_Mo_wind_28]
      rw [if_pos c1]
      refine ⟨_, rfl, ?_, aq, a2, a3⟩
      rcases a4 with ⟨e1, e2⟩ | ⟨t, t1, t2, t3, t4⟩
      · exact Or.inr ⟨e1, fun t ht => e2 t ht (by omega)⟩
      · exact Or.inl ⟨t, t1, t2, t3, t4⟩
  refine bind_ex' loop (fun q3 h3 => ⟨_, rfl, h3.1, ?_, h3.2.2⟩)
  obtain ⟨q', k1, k2⟩ := h3.2.1
  have := k1.us (k := 10) (by decide) (hQ.1 10 (by decide))
  rw [k2] at this
  exact this
theorem m_tug (hQ : mQ (gMo_ints m) (gMo_told m) (gMo_postX m) (gMo_postStrong m) q px ps) (hB : QB q px ps) (hP : PB n T E R) (hu : mP (gMo_ints m) (gMo_atRow m) n T E R) (hS : mS (gMo_ship m) s) (hR : RB c s) (hc : c ≤ 800000) (hL : LB q L) (hl : mL (gMo_lines m) L) {p : Int32} {N : Nat} (hp : p.toInt = (N : Int)) (h1' : 1 ≤ N) (h2 : N ≤ 300) :
    ∃ r, f_Mo_tug m p = some r ∧ (leastI (fun x => planP q px ps n T E R (us s 8 (x : Int)) L N) 99 r.1.toInt ∧ mS r.2.1 s ∧ mL r.2.2.1 L) := by
  unfold f_Mo_tug f_Mo_isSpan
  rw [m_in (rp.of 300 hp (by omega) (by omega)).long (rq.lit 1 1 (a := 1) rfl rfl) (rq.lit 300 300 (a := 300) rfl rfl), if_pos (show (1 : Int) ≤ N ∧ (N : Int) ≤ 300 by omega), if_neg (show ¬ (1 : Int32) = 0 by decide)]
  refine bind_ex' (m_save m) (fun r1 h1 => ?_)
  have loop : ∃ e, lp (fB_Mo_tug_18 m p r1) LF (-1, 0, gMo_ship m, gMo_lines m, gMo_parting m) = some e ∧ (leastI (fun x => planP q px ps n T E R (us s 8 (x : Int)) L N) 99 e.1.toInt ∧ mS e.2.2.1 s ∧ mL e.2.2.2.1 L) := by
    refine lp_inv (N := 100) (I := fun i z => z.2.1.toInt = (i : Int) ∧ mS z.2.2.1 s ∧ mL z.2.2.2.1 L ∧ ((z.1.toInt = -1 ∧ ∀ t' : Nat, t' < i → ¬ planP q px ps n T E R (us s 8 (t' : Int)) L N) ∨ (∃ t : Nat, t ≤ 99 ∧ z.1.toInt = (t : Int) ∧ planP q px ps n T E R (us s 8 (t : Int)) L N ∧ ∀ t' : Nat, t' < t → ¬ planP q px ps n T E R (us s 8 (t' : Int)) L N))) (by decide) ?_ ?_ (i := 0) (by decide) ⟨rfl, hS, hl, Or.inl ⟨rfl, fun t' h => absurd h (by omega)⟩⟩
    · rintro i hi ⟨fd, j, f, g, pt⟩ ih ⟨a1, a2, a3, a4⟩ go
      have a1 : j.toInt = (i : Int) := a1
      have a4 : (fd.toInt = -1 ∧ ∀ t' : Nat, t' < i → ¬ planP q px ps n T E R (us s 8 (t' : Int)) L N) ∨ (∃ t : Nat, t ≤ 99 ∧ fd.toInt = (t : Int) ∧ planP q px ps n T E R (us s 8 (t : Int)) L N ∧ ∀ t' : Nat, t' < t → ¬ planP q px ps n T E R (us s 8 (t' : Int)) L N) := a4
      have c1 : ¬ (99 : Int32) < j := by rw [Int32.lt_iff_toInt_lt, a1]; show ¬ (99 : Int) < _; omega
      simp only [fB_Mo_tug_18]
      rw [if_neg c1]
      rcases a4 with ⟨e1, e2⟩ | ⟨t, t1, t2, t3, t4⟩
      · have c2 : ¬ (0 : Int32) ≤ fd := by rw [Int32.le_iff_toInt_le, e1]; decide
        rw [if_neg c2]
        refine zlet_ex fun z11 h11 => ?_
        have k11 : z11.toInt = (i : Int) := by rw [h11, Int32.toInt_toInt64]; exact a1
        have hw : (r1.1 10).toInt = us s 8 (i : Int) 10 := by rw [h1.1 10 (by decide), us_ne _ _ (by decide)]; exact hS.harm
        refine bind_ex' (m_isIn (m := (gMo_ints m, gMo_told m, gMo_postX m, gMo_postStrong m, gMo_atRow m, gMo_heights m, vp_updL f 8 z11, g, gMo_text m, gMo_said m, gMo_readTold m, gMo_readX m, gMo_readStrong m, gMo_readRow m, pt, r1.1, r1.2, gMo_worst m, gMo_logRow m, gMo_images m, gMo_isKept m)) hQ hB hP hu (a2.upd8 k11) (tug_RB hR (by omega) (by omega)) (by omega) hL a3 hw hp (by omega)) (fun r9 h9 => ?_)
        have kS : mS r9.2.1 s := hS.of_eq (fun k hk => (h9.2.1 k hk).trans (h1.1 k hk))
        have kL : mL r9.2.2.1 L := hl.of_eq (fun k hk => (h9.2.2 k hk).trans (h1.2 k hk))
        refine ite_ex h9.1 (fun f2 => ?_) (fun f2 => ?_)
        · refine go _ ⟨toInt_succ a1 (by omega), kS, kL, Or.inl ⟨rfl, fun t' g1 => ?_⟩⟩
          by_cases e : t' = i
          · subst e; exact f2
          · exact e2 t' (by omega)
        · exact go _ ⟨toInt_succ a1 (by omega), kS, kL, Or.inr ⟨i, by omega, a1, f2, e2⟩⟩
      · have c2 : (0 : Int32) ≤ fd := by rw [Int32.le_iff_toInt_le, t2]; show (0 : Int) ≤ _; omega
        rw [if_pos c2]
        exact ⟨_, rfl, Or.inl ⟨t, t1, t2, t3, t4⟩, a2, a3⟩
    · rintro ⟨fd, j, f, g, pt⟩ ih ⟨a1, a2, a3, a4⟩
      have a1 : j.toInt = ((100 : Nat) : Int) := a1
      have c1 : (99 : Int32) < j := by rw [Int32.lt_iff_toInt_lt, a1]; decide
      simp only [fB_Mo_tug_18]
      rw [if_pos c1]
      refine ⟨_, rfl, ?_, a2, a3⟩
      rcases a4 with ⟨e1, e2⟩ | ⟨t, t1, t2, t3, t4⟩
      · exact Or.inr ⟨e1, fun t ht => e2 t (by omega)⟩
      · exact Or.inl ⟨t, t1, t2, t3, t4⟩
  refine bind_ex' loop (fun q3 h3 => ⟨_, rfl, h3⟩)
theorem m_gaps (hQ : mQ (gMo_ints m) (gMo_told m) (gMo_postX m) (gMo_postStrong m) q px ps) (hB : QB q px ps) (hP : PB n T E R) (hu : mP (gMo_ints m) (gMo_atRow m) n T E R) (hS : mS (gMo_ship m) s) (hR : RB c s) (hc : c ≤ 800000) (hL : LB q L) (hl : mL (gMo_lines m) L) {p : Int32} {N : Nat} (hp : p.toInt = (N : Int)) (h1' : 1 ≤ N) (h2 : N ≤ 300) :
    ∃ r, f_Mo_gap m p = some r ∧ (gapI q (fun k => planP (us q 0 (q 0 + 50 * (k : Int))) px ps n T E R s L N) ((q 1 - 1 - q 0) / 50).toNat r.1.toInt ∧ mQ (gMo_ints m) r.2.1 (gMo_postX m) (gMo_postStrong m) q px ps ∧ mS r.2.2.1 s ∧ mL r.2.2.2.1 L) := by
  have b0 := hB.1
  have t0 := hQ.1 0 (by decide)
  unfold f_Mo_gap f_Mo_isSpan
  rw [m_in (rp.of 300 hp (by omega) (by omega)).long (rq.lit 1 1 (a := 1) rfl rfl) (rq.lit 300 300 (a := 300) rfl rfl), if_pos (show (1 : Int) ≤ N ∧ (N : Int) ≤ 300 by omega), if_neg (show ¬ (1 : Int32) = 0 by decide)]
  refine bind_ex' (m_save m) (fun r1 h1 => ?_)
  have hw : (r1.1 10).toInt = s 10 := by rw [h1.1 10 (by decide)]; exact hS.harm
  have ku : ((((q 1 - 1 - q 0) / 50).toNat : Int) * 50 ≤ q 1 - 1 - q 0) ∧ (q 1 - 1 - q 0 < ((((q 1 - 1 - q 0) / 50).toNat : Int) + 1) * 50) := by
    have : 0 ≤ (q 1 - 1 - q 0) / 50 := Int.ediv_nonneg (by omega) (by decide)
    omega
  generalize ((q 1 - 1 - q 0) / 50).toNat = K at ku
  have loop : ∃ e, lp (fB_Mo_gap_26 m p r1) LF (-1, gMo_told m 0, gMo_told m, gMo_ship m, gMo_lines m, gMo_parting m) = some e ∧ (gapI q (fun k => planP (us q 0 (q 0 + 50 * (k : Int))) px ps n T E R s L N) K e.1.toInt ∧ (∃ q' : Nat → Int, mQ (gMo_ints m) e.2.2.1 (gMo_postX m) (gMo_postStrong m) q' px ps ∧ us q' 0 (q 0) = q) ∧ mS e.2.2.2.1 s ∧ mL e.2.2.2.2.1 L) := by
    refine lp_inv (N := K + 1) (I := fun i z => z.2.1.toInt = q 0 + 50 * (i : Int) ∧ (∃ q' : Nat → Int, mQ (gMo_ints m) z.2.2.1 (gMo_postX m) (gMo_postStrong m) q' px ps ∧ us q' 0 (q 0) = q) ∧ mS z.2.2.2.1 s ∧ mL z.2.2.2.2.1 L ∧ ((z.1.toInt = -1 ∧ ∀ t' : Nat, t' < i → ¬ planP (us q 0 (q 0 + 50 * (t' : Int))) px ps n T E R s L N) ∨ (∃ t : Nat, t < i ∧ z.1.toInt = q 1 - (q 0 + 50 * (t : Int)) ∧ planP (us q 0 (q 0 + 50 * (t : Int))) px ps n T E R s L N ∧ ∀ t' : Nat, t < t' → t' < i → ¬ planP (us q 0 (q 0 + 50 * (t' : Int))) px ps n T E R s L N))) (by omega) ?_ ?_ (i := 0) (by omega) ⟨by show (gMo_told m 0).toInt = _; rw [t0]; omega, ⟨q, hQ, us_self q 0⟩, hS, hl, Or.inl ⟨rfl, fun t' h' => absurd h' (by omega)⟩⟩
    · rintro i hi ⟨fd, j, td, f, g, pt⟩ ih ⟨a1, ⟨q', aq, aq'⟩, a2, a3, a4⟩ go
      have a1 : j.toInt = q 0 + 50 * (i : Int) := a1
      have aq : mQ (gMo_ints m) td (gMo_postX m) (gMo_postStrong m) q' px ps := aq
      have a4 : (fd.toInt = -1 ∧ ∀ t' : Nat, t' < i → ¬ planP (us q 0 (q 0 + 50 * (t' : Int))) px ps n T E R s L N) ∨ (∃ t : Nat, t < i ∧ fd.toInt = q 1 - (q 0 + 50 * (t : Int)) ∧ planP (us q 0 (q 0 + 50 * (t : Int))) px ps n T E R s L N ∧ ∀ t' : Nat, t < t' → t' < i → ¬ planP (us q 0 (q 0 + 50 * (t' : Int))) px ps n T E R s L N) := a4
      have q1e : q' 1 = q 1 := by rw [← aq', us_ne _ _ (by decide)]
      have td1 : (td 1).toInt = q 1 := (aq.1 1 (by decide)).trans q1e
      have c1 : ¬ td 1 ≤ j := by rw [Int32.le_iff_toInt_le, a1, td1]; omega
      simp only [fB_Mo_gap_26]
      rw [if_neg c1]
      have qe : us q' 0 (q 0 + 50 * (i : Int)) = us q 0 (q 0 + 50 * (i : Int)) := by
        have := us_us q' 0 (q 0) (q 0 + 50 * (i : Int))
        rw [aq'] at this
        exact this.symm
      have hQ' := aq.us (k := 0) (by decide) a1
      rw [qe] at hQ'
      refine bind_ex' (m_isIn (m := (gMo_ints m, upd td 0 j, gMo_postX m, gMo_postStrong m, gMo_atRow m, gMo_heights m, f, g, gMo_text m, gMo_said m, gMo_readTold m, gMo_readX m, gMo_readStrong m, gMo_readRow m, pt, r1.1, r1.2, gMo_worst m, gMo_logRow m, gMo_images m, gMo_isKept m)) hQ' (hB.gap (by omega) (by omega)) hP hu a2 hR (by omega) (hL.us (by decide)) a3 hw hp (by omega)) (fun r9 h9 => ?_)
      have kS : mS r9.2.1 s := hS.of_eq (fun k hk => (h9.2.1 k hk).trans (h1.1 k hk))
      have kL : mL r9.2.2.1 L := hl.of_eq (fun k hk => (h9.2.2 k hk).trans (h1.2 k hk))
      have kq : ∃ q' : Nat → Int, mQ (gMo_ints m) (upd td 0 j) (gMo_postX m) (gMo_postStrong m) q' px ps ∧ us q' 0 (q 0) = q := ⟨_, hQ', by rw [us_us]; exact us_self q 0⟩
      have rj : rp j (q 0 + 50 * (i : Int)) 9999 := ⟨a1, by omega, by omega⟩
      have kj : (j + 50).toInt = q 0 + 50 * ((i + 1 : Nat) : Int) := by
        rw [(rj.add (rp.lit 50 50 (a := 50) rfl rfl) (by decide)).1]; omega
      refine ite_ex h9.1 (fun f2 => ?_) (fun f2 => ?_)
      · refine go _ ⟨kj, kq, kS, kL, ?_⟩
        rcases a4 with ⟨e1, e2⟩ | ⟨t, t1, t2, t3, t4⟩
        · refine Or.inl ⟨e1, fun t' g2 => ?_⟩
          by_cases e : t' = i
          · subst e; exact f2
          · exact e2 t' (by omega)
        · refine Or.inr ⟨t, by omega, t2, t3, fun t' g1 g2 => ?_⟩
          by_cases e : t' = i
          · subst e; exact f2
          · exact t4 t' g1 (by omega)
      · refine zlet_ex fun z13 h13 => ?_
        have k13 := (rp.of (a := td 1) 9999 td1 (by omega) (by omega)).sub rj (by decide)
        rw [← h13] at k13
        exact go _ ⟨kj, kq, kS, kL, Or.inr ⟨i, by omega, k13.1, f2, fun t' g1 g2 => absurd g2 (by omega)⟩⟩
    · rintro ⟨fd, j, td, f, g, pt⟩ ih ⟨a1, ⟨q', aq, aq'⟩, a2, a3, a4⟩
      have a1 : j.toInt = q 0 + 50 * ((K + 1 : Nat) : Int) := a1
      have aq : mQ (gMo_ints m) td (gMo_postX m) (gMo_postStrong m) q' px ps := aq
      have q1e : q' 1 = q 1 := by rw [← aq', us_ne _ _ (by decide)]
      have td1 : (td 1).toInt = q 1 := (aq.1 1 (by decide)).trans q1e
      have c1 : td 1 ≤ j := by rw [Int32.le_iff_toInt_le, a1, td1]; omega
      simp only [fB_Mo_gap_26]
      rw [if_pos c1]
      refine ⟨_, rfl, ?_, ⟨q', aq, aq'⟩, a2, a3⟩
      rcases a4 with ⟨e1, e2⟩ | ⟨t, t1, t2, t3, t4⟩
      · exact Or.inr ⟨e1, fun t ht => e2 t (by omega)⟩
      · exact Or.inl ⟨t, by omega, t2, t3, fun t' g1 g2 => t4 t' g1 (by omega)⟩
  refine bind_ex' loop (fun q3 h3 => ⟨_, rfl, h3.1, ?_, h3.2.2⟩)
  obtain ⟨q', k1, k2⟩ := h3.2.1
  have := k1.us (k := 0) (by decide) (hQ.1 0 (by decide))
  rw [k2] at this
  exact this
end
