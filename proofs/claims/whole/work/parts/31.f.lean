/-! THE PURE SIDE 15: how the reference seeks -/
theorem m_size {a : Int64} {x : Int} {A : Nat} (ha : rq a x A) (h : A ≤ 1000000) : rq (f_Mo_size a) (if 0 ≤ x then x else -x) A := by
  unfold f_Mo_size
  by_cases d : 0 ≤ a
  · have d' := ((rq.lit 0 0 (a := 0) rfl rfl).le ha).mp d
    rw [if_pos d, if_pos d']; exact ha
  · have d' : ¬ _ := fun g => d (((rq.lit 0 0 (a := 0) rfl rfl).le ha).mpr g)
    rw [if_neg d, if_neg d']; exact ha.neg (by omega)
def okI (A : Prop) (r : Int32) : Prop := (A ∧ r = 1) ∨ (¬ A ∧ r = 0)
theorem ite_ex {β : Type} {x : Int32} {A : Prop} {a b : Option β} {Q : β → Prop} (h : okI A x) (h0 : ¬ A → ∃ r, a = some r ∧ Q r) (h1 : A → ∃ r, b = some r ∧ Q r) : ∃ r, (if x = 0 then a else b) = some r ∧ Q r := by
  rcases h with ⟨e1, e2⟩ | ⟨e1, e2⟩
  · rw [if_neg (by rw [e2]; decide)]; exact h1 e1
  · rw [if_pos e2]; exact h0 e1
section
variable {m : tMo} {n : Nat} {T E R : Nat → Int} {q px ps s L : Nat → Int} {c : Int}
theorem m_safe (hQ : mQ (gMo_ints m) (gMo_told m) (gMo_postX m) (gMo_postStrong m) q px ps) (hB : QB q px ps) (hS : mS (gMo_ship m) s) (hR : RB c s) : okI (safeI q s) (f_Mo_isSafe m) := by
  have o1 := m_off hS hR.1 (by decide) hQ hB (rp.lit 100 100 (a := 100) rfl rfl)
  have o2 := m_off hS hR.1 (by decide) hQ hB (rp.lit (-100) 100 (a := -100) rfl rfl)
  have l1 := m_along hS hR.1 (by decide) hQ hB (rp.lit 100 100 (a := 100) rfl rfl)
  have l2 := m_along hS hR.1 (by decide) hQ hB (rp.lit (-100) 100 (a := -100) rfl rfl)
  have w0 := (rp.of (a := gMo_told m 0) 9999 (hQ.1 0 (by decide)) (by have := hB.1; omega) (by have := hB.1; omega)).long
  have w1 := (rp.of (a := gMo_told m 1) 9999 (hQ.1 1 (by decide)) (by have := hB.1; omega) (by have := hB.1; omega)).long
  obtain ⟨-, -, c2, c3, c4, c5, -⟩ := hS
  obtain ⟨-, -, b2, b3, b4, b5, -⟩ := hR.1
  have r2 := m_size (rq.of 45000 c2 (by omega) (by omega)) (by decide)
  have r3 := m_size (rq.of 50000 c3 (by omega) (by omega)) (by decide)
  have r4 := m_size (rq.of 50000 c4 (by omega) (by omega)) (by decide)
  have r5 := m_size (rq.of 20000 c5 (by omega) (by omega)) (by decide)
  unfold f_Mo_isSafe safeI
  rw [m_in l1 w0 w1, m_in l2 w0 w1]
  generalize f_Mo_size (gMo_ship m 2) = a2 at r2
  generalize f_Mo_size (gMo_ship m 3) = a3 at r3
  generalize f_Mo_size (gMo_ship m 4) = a4 at r4
  generalize f_Mo_size (gMo_ship m 5) = a5 at r5
  generalize f_Mo_offOf m 100 = z1 at o1
  generalize f_Mo_offOf m (-100) = z2 at o2
  have h100 := rq.lit 100 100 (a := (100 : Int64)) rfl rfl
  have h300 := rq.lit 300 300 (a := (300 : Int64)) rfl rfl
  have h2000 := rq.lit 2000 2000 (a := (2000 : Int64)) rfl rfl
  refine zlet_P (okI _) fun u1 hu1 => ?_
  refine zlet_P (okI _) fun u8 hu8 => ?_
  have k1 : (u1 = 1 ∧ (-100 < s 3 ∧ s 3 < 100) ∧ (-100 < s 4 ∧ s 4 < 100) ∧ (-100 < s 5 ∧ s 5 < 100) ∧ (-2000 < s 2 ∧ s 2 < 2000)) ∨ (u1 = 0 ∧ ¬ ((-100 < s 3 ∧ s 3 < 100) ∧ (-100 < s 4 ∧ s 4 < 100) ∧ (-100 < s 5 ∧ s 5 < 100) ∧ (-2000 < s 2 ∧ s 2 < 2000))) := by
    rw [hu1]
    by_cases d3 : (100 : Int64) ≤ a3
    · have d' := (h100.le r3).mp d3
      rw [if_pos d3]
      exact Or.inr ⟨rfl, fun g => by have := g.1; split at d' <;> omega⟩
    · have d3' : ¬ _ := fun g => d3 ((h100.le r3).mpr g)
      rw [if_neg d3]
      by_cases d4 : (100 : Int64) ≤ a4
      · have d' := (h100.le r4).mp d4
        rw [if_pos d4]
        exact Or.inr ⟨rfl, fun g => by have := g.2.1; split at d' <;> omega⟩
      · have d4' : ¬ _ := fun g => d4 ((h100.le r4).mpr g)
        rw [if_neg d4]
        by_cases d5 : (100 : Int64) ≤ a5
        · have d' := (h100.le r5).mp d5
          rw [if_pos d5]
          exact Or.inr ⟨rfl, fun g => by have := g.2.2.1; split at d' <;> omega⟩
        · have d5' : ¬ _ := fun g => d5 ((h100.le r5).mpr g)
          rw [if_neg d5]
          by_cases d2 : (2000 : Int64) ≤ a2
          · have d' := (h2000.le r2).mp d2
            rw [if_pos d2]
            exact Or.inr ⟨rfl, fun g => by have := g.2.2.2; split at d' <;> omega⟩
          · have d2' : ¬ _ := fun g => d2 ((h2000.le r2).mpr g)
            rw [if_neg d2]
            refine Or.inl ⟨rfl, ?_, ?_, ?_, ?_⟩
            · split at d3' <;> omega
            · split at d4' <;> omega
            · split at d5' <;> omega
            · split at d2' <;> omega
  have k8 : (u8 = 1 ∧ offI q s 100 < 300 ∧ offI q s (-100) < 300) ∨ (u8 = 0 ∧ ¬ (offI q s 100 < 300 ∧ offI q s (-100) < 300)) := by
    rw [hu8]
    by_cases d3 : (300 : Int64) ≤ z1
    · have d' := (h300.le o1).mp d3
      rw [if_pos d3]
      exact Or.inr ⟨rfl, fun g => by omega⟩
    · have d3' : ¬ _ := fun g => d3 ((h300.le o1).mpr g)
      rw [if_neg d3]
      by_cases d4 : (300 : Int64) ≤ z2
      · have d' := (h300.le o2).mp d4
        rw [if_pos d4]
        exact Or.inr ⟨rfl, fun g => by omega⟩
      · have d4' : ¬ _ := fun g => d4 ((h300.le o2).mpr g)
        rw [if_neg d4]
        exact Or.inl ⟨rfl, by omega, by omega⟩
  rcases k1 with ⟨e1, g1⟩ | ⟨e1, g1⟩
  · rw [e1, if_neg (show ¬ (1 : Int32) = 0 by decide)]
    rcases k8 with ⟨e8, g8⟩ | ⟨e8, g8⟩
    · rw [e8, if_neg (show ¬ (1 : Int32) = 0 by decide)]
      by_cases f1 : q 0 ≤ s 0 + armI q 100 ∧ s 0 + armI q 100 ≤ q 1
      · rw [if_pos f1, if_neg (show ¬ (1 : Int32) = 0 by decide)]
        by_cases f2 : q 0 ≤ s 0 + armI q (-100) ∧ s 0 + armI q (-100) ≤ q 1
        · rw [if_pos f2, if_neg (show ¬ (1 : Int32) = 0 by decide)]
          exact Or.inl ⟨⟨g1.1, g1.2.1, g1.2.2.1, g1.2.2.2, ⟨g8.1, f1⟩, ⟨g8.2, f2⟩⟩, rfl⟩
        · rw [if_neg f2, if_pos rfl]
          exact Or.inr ⟨fun g => f2 g.2.2.2.2.2.2, rfl⟩
      · rw [if_neg f1, if_pos rfl]
        exact Or.inr ⟨fun g => f1 g.2.2.2.2.1.2, rfl⟩
    · rw [e8, if_pos rfl]
      exact Or.inr ⟨fun g => g8 ⟨g.2.2.2.2.1.1, g.2.2.2.2.2.1⟩, rfl⟩
  · rw [e1, if_pos rfl]
    exact Or.inr ⟨fun g => g1 ⟨g.1, g.2.1, g.2.2.1, g.2.2.2.1⟩, rfl⟩
theorem mS.harm {f : Nat → Int64} {s : Nat → Int} (hS : mS f s) : (f 10).toInt = s 10 := hS.2.2.2.2.2.2.2.2.2.2.1
theorem mS.pace {f : Nat → Int64} {s : Nat → Int} (hS : mS f s) : (f 3).toInt = s 3 := hS.2.2.2.1
theorem m_unharmed {x y : Int} (hs : (gMo_ship m 10).toInt = x) (hw : (gMo_wasShip m 10).toInt = y) : okI (x = y) (f_Mo_isUnharmed m) := by
  unfold f_Mo_isUnharmed
  by_cases d : gMo_ship m 10 = gMo_wasShip m 10
  · rw [if_pos d]; exact Or.inl ⟨by rw [← hs, ← hw, d], rfl⟩
  · rw [if_neg d]; exact Or.inr ⟨fun g => d (Int64.toInt_inj.mp (by rw [hs, hw, g])), rfl⟩
theorem mS.eng {f : Nat → Int64} {s : Nat → Int} (hS : mS f s) {a b : Int64} {x y : Int} (ha : a.toInt = x) (hb : b.toInt = y) : mS (vp_updL (vp_updL f 6 a) 7 b) (us (us s 6 x) 7 y) := by
  obtain ⟨c0, c1, c2, c3, c4, c5, c6, c7, c8, c9, c10, c11, c12⟩ := hS
  refine ⟨?_, ?_, ?_, ?_, ?_, ?_, ?_, ?_, ?_, ?_, ?_, ?_, ?_⟩ <;> (try simp (disch := decide) only [updL_eq, updL_ne, us_eq, us_ne])
  · exact c0
  · exact c1
  · exact c2
  · exact c3
  · exact c4
  · exact c5
  · exact ha
  · exact hb
  · exact c8
  · exact c9
  · exact c10
  · exact c11
  · exact c12
theorem mS.upd8 {f : Nat → Int64} {s : Nat → Int} (hS : mS f s) {a : Int64} {x : Int} (ha : a.toInt = x) : mS (vp_updL f 8 a) (us s 8 x) := by
  obtain ⟨c0, c1, c2, c3, c4, c5, c6, c7, c8, c9, c10, c11, c12⟩ := hS
  refine ⟨?_, ?_, ?_, ?_, ?_, ?_, ?_, ?_, ?_, ?_, ?_, ?_, ?_⟩ <;> (try simp (disch := decide) only [updL_eq, updL_ne, us_eq, us_ne])
  · exact c0
  · exact c1
  · exact c2
  · exact c3
  · exact c4
  · exact c5
  · exact c6
  · exact c7
  · exact ha
  · exact c9
  · exact c10
  · exact c11
  · exact c12
theorem us_eng (t : Nat → Int) (x y a b : Int) : us (us (us (us t 6 x) 7 y) 6 a) 7 b = us (us t 6 a) 7 b := by
  funext j
  by_cases e7 : j = 7
  · subst e7; rw [us_eq, us_eq]
  · by_cases e6 : j = 6
    · subst e6; rw [us_ne _ _ (by decide), us_eq, us_ne _ _ (by decide), us_eq]
    · rw [us_ne _ _ e7, us_ne _ _ e6, us_ne _ _ e7, us_ne _ _ e6, us_ne _ _ e7, us_ne _ _ e6]
theorem us_eng_self (t : Nat → Int) {a b : Int} (h6 : t 6 = a) (h7 : t 7 = b) : us (us t 6 a) 7 b = t := by
  funext j
  by_cases e7 : j = 7
  · subst e7; rw [us_eq, h7]
  · by_cases e6 : j = 6
    · subst e6; rw [us_ne _ _ (by decide), us_eq, h6]
    · rw [us_ne _ _ e7, us_ne _ _ e6]
theorem us_eng6 (t : Nat → Int) {a b : Int} (h7 : t 7 = b) : us (us t 6 a) 7 b = us t 6 a := by
  funext j
  by_cases e7 : j = 7
  · subst e7; rw [us_eq, us_ne _ _ (by decide), h7]
  · rw [us_ne _ _ e7]
theorem m_isAstern (hQ : mQ (gMo_ints m) (gMo_told m) (gMo_postX m) (gMo_postStrong m) q px ps) (hB : QB q px ps) (hS : mS (gMo_ship m) s) (hR : RB c s) (hc : c ≤ 800000) (hL : LB q L) (hl : mL (gMo_lines m) L) (hw : (gMo_wasShip m 10).toInt = s 10) {p : Int32} {t : Nat} (hp : p.toInt = (t : Int)) (ht : t ≤ 120) :
    ∃ r, f_Mo_isAstern m p = some r ∧ ((r.1 = 1 ∧ asternP q px ps s L t) ∨ (r.1 = 0 ∧ ¬ asternP q px ps s L t)) := by
  unfold f_Mo_isAstern
  have l1 : ∃ e, lp (fB_Mo_isAstern_4 m p) LF (0, 0, gMo_ship m, gMo_lines m, gMo_parting m) = some e ∧ (mS e.2.2.1 (runI q px ps noI s L t).1 ∧ mL e.2.2.2.1 (runI q px ps noI s L t).2.1) := by
    refine lp_inv (N := t) (I := fun i y => y.2.1.toInt = (i : Int) ∧ mS y.2.2.1 (runI q px ps noI s L i).1 ∧ mL y.2.2.2.1 (runI q px ps noI s L i).2.1) (by omega) ?_ ?_ (i := 0) (by omega) ⟨rfl, hS, hl⟩
    · rintro i hi ⟨n, j, f, g, pt⟩ ih ⟨a2, a3, a5⟩ go
      have a2 : j.toInt = (i : Int) := a2
      obtain ⟨b1, b2, b3, b4⟩ := runI_b hB noI_RB hR hL i
      simp only [fB_Mo_isAstern_4]
      rw [if_neg (lt_lit a2 hp hi)]
      refine bind_ex' (m_second' rfl a3 a5 hQ b1 (by omega) hB b2) (fun r9 h9 => ?_)
      refine zlet_ex fun z10 h10 => ?_
      exact go _ ⟨toInt_succ a2 (by omega), h9.2.1, h9.2.2⟩
    · rintro ⟨n, j, f, g, pt⟩ ih ⟨a2, a3, a5⟩
      have a2 : j.toInt = (t : Int) := a2
      simp only [fB_Mo_isAstern_4]
      rw [if_pos (ge_lit a2 hp (by omega))]
      exact ⟨_, rfl, a3, a5⟩
  refine bind_ex' l1 (fun q2 h2 => ?_)
  obtain ⟨hS2, hl2⟩ := h2
  obtain ⟨hR2, hL2, -, -⟩ := runI_b hB noI_RB hR hL t
  have mono : ∀ x : Int, (runI q px ps noI s L t).1 10 ≤ x → x = s 10 → (runI q px ps noI s L t).1 10 = s 10 := by
    intro x h1 h2
    have m1 := runI_harm hB noI_RB no10 hR hL 0 t
    rw [show 0 + t = t by omega] at m1
    have m0 : (runI q px ps noI s L 0).1 10 = s 10 := rfl
    omega
  unfold asternP stopP
  generalize (runI q px ps noI s L t).1 = b at *
  generalize (runI q px ps noI s L t).2.1 = Lb at *
  have hR0 := eng_RB hR2 (x := -2) (by decide) (by decide)
  have e10 := eng_10 b (-2)
  have s06 : us (us b 6 (-2)) 7 0 6 = -2 := by simp (disch := decide) only [us_eq, us_ne]
  have s07 : us (us b 6 (-2)) 7 0 7 = 0 := by simp (disch := decide) only [us_eq]
  have s0e : us (us (us (us b 6 (-2)) 7 0) 6 (b 6)) 7 (b 7) = b := by rw [us_eng]; exact us_eng_self b rfl rfl
  generalize us (us b 6 (-2)) 7 0 = s0 at *
  have l2 : ∃ e, lp (fB_Mo_isAstern_27 m) LF (q2.1, 0, 0, q2.2.2.1, q2.2.2.2.1, q2.2.2.2.2) = some e ∧ (∃ x y : Int, mS e.2.2.2.1 (us (us (runI q px ps asI s0 Lb 60).1 6 x) 7 y) ∧ x = (runI q px ps asI s0 Lb 60).1 6 ∧ y = (runI q px ps asI s0 Lb 60).1 7) := by
    refine lp_inv (N := 60) (I := fun i z => z.2.2.1.toInt = (i : Int) ∧ (∃ x y : Int, mS z.2.2.2.1 (us (us (runI q px ps asI s0 Lb i).1 6 x) 7 y) ∧ (0 < i → x = (runI q px ps asI s0 Lb i).1 6 ∧ y = (runI q px ps asI s0 Lb i).1 7)) ∧ mL z.2.2.2.2.1 (runI q px ps asI s0 Lb i).2.1 ∧ ((z.2.1 = 0 ∧ (runI q px ps asI s0 Lb i).1 6 = -2) ∨ (¬ z.2.1 = 0 ∧ (runI q px ps asI s0 Lb i).1 6 = 0)) ∧ (runI q px ps asI s0 Lb i).1 7 = 0) (by decide) ?_ ?_ (i := 0) (by decide) ⟨rfl, ⟨b 6, b 7, by show mS q2.2.2.1 (us (us s0 6 (b 6)) 7 (b 7)); rw [s0e]; exact hS2, fun h => absurd h (by omega)⟩, hl2, Or.inl ⟨rfl, s06⟩, s07⟩
    · rintro i hi ⟨n, ov, j, f, g, pt⟩ ih ⟨a2, ⟨x, y, a3, -⟩, a5, a6, a7⟩ go
      have a2 : j.toInt = (i : Int) := a2
      have a6 : (ov = 0 ∧ (runI q px ps asI s0 Lb i).1 6 = -2) ∨ (¬ ov = 0 ∧ (runI q px ps asI s0 Lb i).1 6 = 0) := a6
      obtain ⟨b1, b2, b3, b4⟩ := runI_b hB asI_RB hR0 hL2 i
      have rn : (runI q px ps asI s0 Lb (i + 1)).1 = shipI q px ps (asI i (runI q px ps asI s0 Lb i).1) (runI q px ps asI s0 Lb i).2.1 := rfl
      have rn2 : (runI q px ps asI s0 Lb (i + 1)).2.1 = restI q px ps (asI i (runI q px ps asI s0 Lb i).1) (runI q px ps asI s0 Lb i).2.1 := rfl
      have b1' := asI_RB i _ _ b1
      rw [rn, rn2] at go
      have key : ∀ tt : Nat → Int, mS f (us (us tt 6 x) 7 y) → RB (c + t + i) tt → RB (c + t + i) (asI i tt) → ((ov = 0 ∧ tt 6 = -2) ∨ (¬ ov = 0 ∧ tt 6 = 0)) → tt 7 = 0 → ∀ w15 : Int32, w15 = (if ov = 0 then (if 0 < f 3 then 0 else 1) else 1) → ∀ w20 : Int64, w20 = (if w15 = 0 then -2 else 0) → mS (vp_updL (vp_updL f 6 w20) 7 0) (asI i tt) ∧ ((w15 = 0 ∧ asI i tt 6 = -2) ∨ (¬ w15 = 0 ∧ asI i tt 6 = 0)) ∧ asI i tt 7 = 0 := by
        intro tt k1 k2 k3 k4 k5 w15 h15 w20 h20
        have pe : (f 3).toInt = tt 3 := by
          have := k1.pace
          rw [us_ne _ _ (by decide), us_ne _ _ (by decide)] at this
          exact this
        have rp3 := rq.of 50000 pe (by have := k2.1.2.2.2.1; omega) (by have := k2.1.2.2.2.1; omega)
        unfold asI
        rcases k4 with ⟨o1, o2⟩ | ⟨o1, o2⟩
        · rw [if_pos o1] at h15
          by_cases e : 0 < f 3
          · have e' := ((rq.lit 0 0 (a := 0) rfl rfl).lt rp3).mp e
            rw [if_pos e] at h15
            rw [if_pos h15] at h20
            rw [if_neg (show ¬ tt 3 ≤ 0 by omega)]
            refine ⟨?_, Or.inl ⟨h15, o2⟩, k5⟩
            have := k1.eng (a := w20) (b := 0) (x := -2) (y := 0) (by rw [h20]; rfl) rfl
            rw [us_eng, us_eng_self tt o2 k5] at this
            exact this
          · have e' : ¬ _ := fun g => e (((rq.lit 0 0 (a := 0) rfl rfl).lt rp3).mpr g)
            rw [if_neg e] at h15
            have w1 : ¬ w15 = 0 := by rw [h15]; decide
            rw [if_neg w1] at h20
            rw [if_pos (show tt 3 ≤ 0 by omega)]
            refine ⟨?_, Or.inr ⟨w1, us_eq _ _ _⟩, by rw [us_ne _ _ (by decide)]; exact k5⟩
            have := k1.eng (a := w20) (b := 0) (x := 0) (y := 0) (by rw [h20]; rfl) rfl
            rw [us_eng, us_eng6 tt k5] at this
            exact this
        · rw [if_neg o1] at h15
          have w1 : ¬ w15 = 0 := by rw [h15]; decide
          rw [if_neg w1] at h20
          have k6 := k1.eng (a := w20) (b := 0) (x := 0) (y := 0) (by rw [h20]; rfl) rfl
          rw [us_eng, us_eng_self tt o2 k5] at k6
          have u6 : us tt 6 0 = tt := by
            have := us_self tt 6
            rw [o2] at this
            exact this
          split
          · rw [u6]; exact ⟨k6, Or.inr ⟨w1, o2⟩, k5⟩
          · exact ⟨k6, Or.inr ⟨w1, o2⟩, k5⟩
      simp only [fB_Mo_isAstern_27]
      rw [if_neg (lt_lit a2 (N := 60) rfl hi)]
      refine zlet_ex fun w15 h15 => ?_
      refine zlet_ex fun w20 h20 => ?_
      obtain ⟨y1, y2, y3⟩ := key _ a3 b1 b1' a6 a7 w15 h15 w20 h20
      generalize asI i (runI q px ps asI s0 Lb i).1 = tt at *
      have s67 := shipI_67 q px ps tt (runI q px ps asI s0 Lb i).2.1
      refine bind_ex' (m_second' rfl y1 a5 hQ b1' (by omega) hB b2) (fun r9 h9 => ?_)
      refine zlet_ex fun z10 h10 => ?_
      refine go _ ⟨toInt_succ a2 (by omega), ⟨_, _, ?_, fun _ => ⟨rfl, rfl⟩⟩, h9.2.2, ?_, ?_⟩
      · rw [us_eng_self _ rfl rfl]; exact h9.2.1
      · rw [s67.1]; exact y2
      · rw [s67.2]; exact y3
    · rintro ⟨n, ov, j, f, g, pt⟩ ih ⟨a2, ⟨x, y, a3, a4⟩, a5, a6, a7⟩
      have a2 : j.toInt = ((60 : Nat) : Int) := a2
      simp only [fB_Mo_isAstern_27]
      rw [if_pos (ge_lit a2 (N := 60) rfl (by omega))]
      have := a4 (by decide)
      exact ⟨_, rfl, x, y, a3, this.1, this.2⟩
  refine bind_ex' l2 (fun q10 h10 => ?_)
  obtain ⟨x, y, k1, hx, hy⟩ := h10
  rw [us_eng_self _ hx.symm hy.symm] at k1
  obtain ⟨b1, b2, b3, b4⟩ := runI_b hB asI_RB hR0 hL2 60
  have m1 := runI_harm hB asI_RB asI_10 hR0 hL2 0 60
  rw [show 0 + 60 = 60 by decide] at m1
  have m0 : (runI q px ps asI s0 Lb 0).1 10 = b 10 := e10
  generalize (runI q px ps asI s0 Lb 60).1 = fin at *
  refine ite_ex (m_safe hQ hB k1 b1) (fun e1 => ?_) (fun e1 => ?_)
  · exact ⟨_, rfl, Or.inr ⟨rfl, fun g => e1 g.2.2⟩⟩
  · refine ite_ex (m_unharmed k1.harm hw) (fun f1 => ?_) (fun f1 => ?_)
    · exact ⟨_, rfl, Or.inr ⟨rfl, fun g => f1 (by omega)⟩⟩
    · have := mono _ (by omega) f1
      exact ⟨_, rfl, Or.inl ⟨rfl, this, by omega, e1⟩⟩
end
