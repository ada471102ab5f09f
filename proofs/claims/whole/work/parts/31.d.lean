/-! THE PURE SIDE 13: what is sought, in whole numbers; how the class seeks -/
def leastI (P : Nat → Prop) (N : Nat) (r : Int) : Prop := (∃ t : Nat, t ≤ N ∧ r = (t : Int) ∧ P t ∧ ∀ t', t' < t → ¬ P t') ∨ (r = -1 ∧ ∀ t, t ≤ N → ¬ P t)
def greatI (P : Nat → Prop) (N : Nat) (r : Int) : Prop := (∃ t : Nat, t ≤ N ∧ r = (t : Int) ∧ P t ∧ ∀ t', t < t' → t' ≤ N → ¬ P t') ∨ (r = -1 ∧ ∀ t, t ≤ N → ¬ P t)
theorem leastI_uniq {P : Nat → Prop} {N : Nat} {r x : Int} (h1 : leastI P N r) (h2 : leastI P N x) : r = x := by
  rcases h1 with ⟨t, a1, a2, a3, a4⟩ | ⟨a1, a2⟩ <;> rcases h2 with ⟨u, b1, b2, b3, b4⟩ | ⟨b1, b2⟩
  · rcases Nat.lt_trichotomy t u with g | g | g
    · exact absurd a3 (b4 t g)
    · omega
    · exact absurd b3 (a4 u g)
  · exact absurd a3 (b2 t a1)
  · exact absurd b3 (a2 u b1)
  · omega
theorem greatI_uniq {P : Nat → Prop} {N : Nat} {r x : Int} (h1 : greatI P N r) (h2 : greatI P N x) : r = x := by
  rcases h1 with ⟨t, a1, a2, a3, a4⟩ | ⟨a1, a2⟩ <;> rcases h2 with ⟨u, b1, b2, b3, b4⟩ | ⟨b1, b2⟩
  · rcases Nat.lt_trichotomy t u with g | g | g
    · exact absurd b3 (a4 u g b1)
    · omega
    · exact absurd a3 (b4 t g a1)
  · exact absurd a3 (b2 t a1)
  · exact absurd b3 (a2 u b1)
  · omega
def asI : Nat → (Nat → Int) → Nat → Int := fun _ s => if s 3 ≤ 0 then us s 6 0 else s
theorem asI_RB : ∀ (k : Nat) (c : Int) (s : Nat → Int), RB c s → RB c (asI k s) := by
  intro k c s h
  unfold asI
  split
  · unfold RB SB at h ⊢
    simp (disch := decide) only [us_eq, us_ne]
    omega
  · exact h
theorem asI_10 : ∀ (k : Nat) (s : Nat → Int), asI k s 10 = s 10 := by
  intro k s
  unfold asI
  split
  · simp (disch := decide) only [us_ne]
  · rfl
theorem eng_RB {c : Int} {s : Nat → Int} (h : RB c s) {x : Int} (h1 : -3 ≤ x) (h2 : x ≤ 3) : RB c (us (us s 6 x) 7 0) := by
  unfold RB SB at h ⊢
  simp (disch := decide) only [us_eq, us_ne]
  omega
theorem eng_10 (s : Nat → Int) (x : Int) : us (us s 6 x) 7 0 10 = s 10 := by simp (disch := decide) only [us_ne]
def stopP (q px ps b Lb : Nat → Int) : Prop := (runI q px ps asI (us (us b 6 (-2)) 7 0) Lb 60).1 10 = b 10 ∧ safeI q (runI q px ps asI (us (us b 6 (-2)) 7 0) Lb 60).1
def asternP (q px ps s L : Nat → Int) (t : Nat) : Prop := (runI q px ps noI s L t).1 10 = s 10 ∧ stopP q px ps (runI q px ps noI s L t).1 (runI q px ps noI s L t).2.1
def awayP (q px ps b Lb : Nat → Int) : Prop := (runI q px ps noI (us (us b 6 (-3)) 7 0) Lb 120).1 10 = b 10
def offP (q px ps s L : Nat → Int) (t : Nat) : Prop := (runI q px ps noI s L t).1 10 = s 10 ∧ awayP q px ps (runI q px ps noI s L t).1 (runI q px ps noI s L t).2.1
def planP (q px ps : Nat → Int) (n : Nat) (T E R s L : Nat → Int) (N : Nat) : Prop := (runI q px ps (plI n T E R) s L N).1 10 = s 10 ∧ safeI q (runI q px ps (plI n T E R) s L N).1
/-- a ship with engine and wheel given -/
theorem cS.eng {i : Nat → Int32} {h : Int64} {s : Nat → Int} (hS : cS i h s) {a b : Int32} {x y : Int} (ha : a.toInt = x) (hb : b.toInt = y) : cS (upd (upd i 6 a) 7 b) h (us (us s 6 x) 7 y) := by
  obtain ⟨c0, c1, c2, c3, c4, c5, c6, c7, c8, c9, c10, c11, c12⟩ := hS
  refine ⟨?_, ?_, ?_, ?_, ?_, ?_, ?_, ?_, ?_, ?_, ?_, ?_, ?_⟩ <;> (try simp (disch := decide) only [upd_eq, upd_ne, us_eq, us_ne])
  · exact c0
  · exact c1
  · exact c2
  · exact c3
  · exact c4
  · exact c5
  · exact ha
  · exact hb
  · exact c8
  · exact c9
  · exact c10
  · exact c11
  · exact c12
theorem cS.upd6 {i : Nat → Int32} {h : Int64} {s : Nat → Int} (hS : cS i h s) {a : Int32} {x : Int} (ha : a.toInt = x) : cS (upd i 6 a) h (us s 6 x) := by
  obtain ⟨c0, c1, c2, c3, c4, c5, c6, c7, c8, c9, c10, c11, c12⟩ := hS
  refine ⟨?_, ?_, ?_, ?_, ?_, ?_, ?_, ?_, ?_, ?_, ?_, ?_, ?_⟩ <;> (try simp (disch := decide) only [upd_eq, upd_ne, us_eq, us_ne])
  · exact c0
  · exact c1
  · exact c2
  · exact c3
  · exact c4
  · exact c5
  · exact ha
  · exact c7
  · exact c8
  · exact c9
  · exact c10
  · exact c11
  · exact c12
theorem cS.upd8 {i : Nat → Int32} {h : Int64} {s : Nat → Int} (hS : cS i h s) {a : Int32} {x : Int} (ha : a.toInt = x) : cS (upd i 8 a) h (us s 8 x) := by
  obtain ⟨c0, c1, c2, c3, c4, c5, c6, c7, c8, c9, c10, c11, c12⟩ := hS
  refine ⟨?_, ?_, ?_, ?_, ?_, ?_, ?_, ?_, ?_, ?_, ?_, ?_, ?_⟩ <;> (try simp (disch := decide) only [upd_eq, upd_ne, us_eq, us_ne])
  · exact c0
  · exact c1
  · exact c2
  · exact c3
  · exact c4
  · exact c5
  · exact c6
  · exact c7
  · exact ha
  · exact c9
  · exact c10
  · exact c11
  · exact c12
theorem cS.harm {i : Nat → Int32} {h : Int64} {s : Nat → Int} (hS : cS i h s) : h.toInt = s 10 := hS.2.2.2.2.2.2.2.2.2.2.1
theorem cS.pace {i : Nat → Int32} {h : Int64} {s : Nat → Int} (hS : cS i h s) : (i 3).toInt = s 3 := hS.2.2.2.1
section
variable {w : tQu} {q px ps s L : Nat → Int} {c : Int}
theorem c_stops {v : tSe} (hQ : cQ w q px ps) (hB : QB q px ps) (hS : cS (gSh_ints (gSe_base v)) (gSh_harm (gSe_base v)) s) (hR : RB c s) (hc : c ≤ 900000) (hL : LB q L)
    (hl : cL (gLi_fast (gSh_lines (gSe_base v))) (gLi_place (gSh_lines (gSe_base v))) (gLi_post (gSh_lines (gSe_base v))) (gLi_length (gSh_lines (gSe_base v))) L) :
    ∃ r, f_Se_stopsSafely v w = some r ∧ ((r.1 = 1 ∧ stopP q px ps s L) ∨ (r.1 = 0 ∧ ¬ stopP q px ps s L)) := by
  unfold f_Se_stopsSafely
  refine bind_ex' (c_copy hS hL hl) (fun r1 h1 => ?_)
  obtain ⟨k1, -, k3⟩ := h1
  have hR0 := eng_RB hR (x := -2) (by decide) (by decide)
  have hS0 := k1.eng (a := -2) (b := 0) (x := -2) (y := 0) rfl rfl
  unfold stopP
  have e10 := eng_10 s (-2)
  generalize us (us s 6 (-2)) 7 0 = s0 at hR0 hS0 e10
  have loop : ∃ e, lp (fB_Se_stopsSafely_30 v w r1) LF (0, upd (upd r1.1 6 (-2)) 7 0, r1.2.1, r1.2.2.1) = some e ∧ ((e.2.2.1 = gSh_harm (gSe_base v) ∧ cS e.2.1 e.2.2.1 (runI q px ps asI s0 L 60).1) ∨ (¬ e.2.2.1 = gSh_harm (gSe_base v) ∧ ¬ (runI q px ps asI s0 L 60).1 10 = s 10)) := by
    refine lp_inv (N := 60) (I := fun i t => t.1.toInt = (i : Int) ∧ cS t.2.1 t.2.2.1 (runI q px ps asI s0 L i).1 ∧ cL t.2.2.2 r1.2.2.2.1 r1.2.2.2.2.1 r1.2.2.2.2.2 (runI q px ps asI s0 L i).2.1) (by decide) ?_ ?_ (i := 0) (by decide) ⟨rfl, hS0, k3⟩
    · rintro i hi ⟨j, f, h, g⟩ ih ⟨a1, a2, a3⟩ go
      have a1 : j.toInt = (i : Int) := a1
      have a2 : cS f h (runI q px ps asI s0 L i).1 := a2
      obtain ⟨b1, b2, -, -⟩ := runI_b hB asI_RB hR0 hL i
      simp only [fB_Se_stopsSafely_30]
      rw [if_neg (lt_lit a1 (N := 60) rfl hi)]
      by_cases d : h = gSh_harm (gSe_base v)
      · rw [if_pos d]
        refine zlet_ex fun w9 h9 => ?_
        have k9 : ∀ t : Nat → Int, cS f h t → (-50000 ≤ t 3 ∧ t 3 ≤ 50000) → cS w9 h (asI i t) := by
          intro t ht hb3
          rw [h9]
          unfold asI
          have rp3 := rp.of 50000 ht.pace (by omega) (by omega)
          by_cases e : 0 < f 3
          · have e' := ((rp.lit 0 0 (a := 0) rfl rfl).lt rp3).mp e
            rw [if_pos e, if_neg (by omega)]; exact ht
          · have e' : ¬ _ := fun g => e (((rp.lit 0 0 (a := 0) rfl rfl).lt rp3).mpr g)
            rw [if_neg e, if_pos (by omega)]; exact ht.upd6 rfl
        have k9 := k9 _ a2 b1.1.2.2.2.1
        refine bind_ex' (c_second (v := (w9, h, g, r1.2.2.2.1, r1.2.2.2.2.1, r1.2.2.2.2.2)) k9 (asI_RB i _ _ b1) (by omega) hQ hB b2 a3) (fun r12 h12 => ?_)
        exact go _ ⟨toInt_succ a1 (by omega), h12.2.1, h12.2.2.2⟩
      · rw [if_neg d]
        refine ⟨_, rfl, Or.inr ⟨d, fun g => d (Int64.toInt_inj.mp ?_)⟩⟩
        have m1 := runI_harm hB asI_RB asI_10 hR0 hL 0 i
        have m2 := runI_harm hB asI_RB asI_10 hR0 hL i (60 - i)
        rw [show i + (60 - i) = 60 by omega] at m2
        rw [show 0 + i = i by omega] at m1
        have m0 : (runI q px ps asI s0 L 0).1 10 = s 10 := e10
        rw [a2.harm, hS.harm]
        omega
    · rintro ⟨j, f, h, g⟩ ih ⟨a1, a2, a3⟩
      have a1 : j.toInt = ((60 : Nat) : Int) := a1
      have a2 : cS f h (runI q px ps asI s0 L 60).1 := a2
      simp only [fB_Se_stopsSafely_30]
      rw [if_pos (ge_lit a1 (N := 60) rfl (by omega))]
      refine ⟨_, rfl, ?_⟩
      by_cases d : h = gSh_harm (gSe_base v)
      · exact Or.inl ⟨d, a2⟩
      · exact Or.inr ⟨d, fun g => d (Int64.toInt_inj.mp (by rw [a2.harm, hS.harm, g]))⟩
  refine bind_ex' loop (fun q3 h3 => ?_)
  obtain ⟨b1, b2, -, -⟩ := runI_b hB asI_RB hR0 hL 60
  rcases h3 with ⟨d, k⟩ | ⟨d, k⟩
  · rw [if_pos d]
    have hh : (runI q px ps asI s0 L 60).1 10 = s 10 := by rw [← k.harm, d, hS.harm]
    rcases c_safe (v := (q3.2.1, q3.2.2.1, (q3.2.2.2, r1.2.2.2.1, r1.2.2.2.2.1, r1.2.2.2.2.2))) hQ hB k b1 with ⟨e1, e2⟩ | ⟨e1, e2⟩
    · rw [e2, if_neg (show ¬ (1 : Int32) = 0 by decide)]
      exact ⟨_, rfl, Or.inl ⟨rfl, hh, e1⟩⟩
    · rw [e2, if_pos rfl]
      exact ⟨_, rfl, Or.inr ⟨rfl, fun g => e1 g.2⟩⟩
  · rw [if_neg d]
    exact ⟨_, rfl, Or.inr ⟨rfl, fun g => k g.1⟩⟩
theorem c_gets {v : tSe} (hQ : cQ w q px ps) (hB : QB q px ps) (hS : cS (gSh_ints (gSe_base v)) (gSh_harm (gSe_base v)) s) (hR : RB c s) (hc : c ≤ 900000) (hL : LB q L)
    (hl : cL (gLi_fast (gSh_lines (gSe_base v))) (gLi_place (gSh_lines (gSe_base v))) (gLi_post (gSh_lines (gSe_base v))) (gLi_length (gSh_lines (gSe_base v))) L) :
    ∃ r, f_Se_getsOff v w = some r ∧ ((r.1 = 1 ∧ awayP q px ps s L) ∨ (r.1 = 0 ∧ ¬ awayP q px ps s L)) := by
  unfold f_Se_getsOff
  refine bind_ex' (c_copy hS hL hl) (fun r1 h1 => ?_)
  obtain ⟨k1, -, k3⟩ := h1
  have hR0 := eng_RB hR (x := -3) (by decide) (by decide)
  have hS0 := k1.eng (a := -3) (b := 0) (x := -3) (y := 0) rfl rfl
  unfold awayP
  have e10 := eng_10 s (-3)
  generalize us (us s 6 (-3)) 7 0 = s0 at hR0 hS0 e10
  have n10 : ∀ (k : Nat) (t : Nat → Int), noI k t 10 = t 10 := fun _ _ => rfl
  have loop : ∃ e, lp (fB_Se_getsOff_30 v w r1) LF (0, upd (upd r1.1 6 (-3)) 7 0, r1.2.1, r1.2.2.1) = some e ∧ ((e.2.2.1 = gSh_harm (gSe_base v) ∧ (runI q px ps noI s0 L 120).1 10 = s 10) ∨ (¬ e.2.2.1 = gSh_harm (gSe_base v) ∧ ¬ (runI q px ps noI s0 L 120).1 10 = s 10)) := by
    refine lp_inv (N := 120) (I := fun i t => t.1.toInt = (i : Int) ∧ cS t.2.1 t.2.2.1 (runI q px ps noI s0 L i).1 ∧ cL t.2.2.2 r1.2.2.2.1 r1.2.2.2.2.1 r1.2.2.2.2.2 (runI q px ps noI s0 L i).2.1) (by decide) ?_ ?_ (i := 0) (by decide) ⟨rfl, hS0, k3⟩
    · rintro i hi ⟨j, f, h, g⟩ ih ⟨a1, a2, a3⟩ go
      have a1 : j.toInt = (i : Int) := a1
      have a2 : cS f h (runI q px ps noI s0 L i).1 := a2
      obtain ⟨b1, b2, -, -⟩ := runI_b hB noI_RB hR0 hL i
      simp only [fB_Se_getsOff_30]
      rw [if_neg (lt_lit a1 (N := 120) rfl hi)]
      by_cases d : h = gSh_harm (gSe_base v)
      · rw [if_pos d]
        refine bind_ex' (c_second (v := (f, h, g, r1.2.2.2.1, r1.2.2.2.2.1, r1.2.2.2.2.2)) a2 b1 (by omega) hQ hB b2 a3) (fun r12 h12 => ?_)
        exact go _ ⟨toInt_succ a1 (by omega), h12.2.1, h12.2.2.2⟩
      · rw [if_neg d]
        refine ⟨_, rfl, Or.inr ⟨d, fun g => d (Int64.toInt_inj.mp ?_)⟩⟩
        have m1 := runI_harm hB noI_RB n10 hR0 hL 0 i
        have m2 := runI_harm hB noI_RB n10 hR0 hL i (120 - i)
        rw [show i + (120 - i) = 120 by omega] at m2
        rw [show 0 + i = i by omega] at m1
        have m0 : (runI q px ps noI s0 L 0).1 10 = s 10 := e10
        rw [a2.harm, hS.harm]
        omega
    · rintro ⟨j, f, h, g⟩ ih ⟨a1, a2, a3⟩
      have a1 : j.toInt = ((120 : Nat) : Int) := a1
      have a2 : cS f h (runI q px ps noI s0 L 120).1 := a2
      simp only [fB_Se_getsOff_30]
      rw [if_pos (ge_lit a1 (N := 120) rfl (by omega))]
      refine ⟨_, rfl, ?_⟩
      by_cases d : h = gSh_harm (gSe_base v)
      · exact Or.inl ⟨d, by rw [← a2.harm, d, hS.harm]⟩
      · exact Or.inr ⟨d, fun g => d (Int64.toInt_inj.mp (by rw [a2.harm, hS.harm, g]))⟩
  refine bind_ex' loop (fun q3 h3 => ?_)
  rcases h3 with ⟨d, k⟩ | ⟨d, k⟩
  · rw [if_pos d]; exact ⟨_, rfl, Or.inl ⟨rfl, k⟩⟩
  · rw [if_neg d]; exact ⟨_, rfl, Or.inr ⟨rfl, k⟩⟩
theorem no10 : ∀ (k : Nat) (t : Nat → Int), noI k t 10 = t 10 := fun _ _ => rfl
/-- harm that has come stays -/
theorem go_mono (hB : QB q px ps) (hR : RB c s) (hL : LB q L) {t u : Nat} (htu : t ≤ u) (h : (runI q px ps noI s L u).1 10 = s 10) : (runI q px ps noI s L t).1 10 = s 10 := by
  have m1 := runI_harm hB noI_RB no10 hR hL 0 t
  have m2 := runI_harm hB noI_RB no10 hR hL t (u - t)
  rw [show t + (u - t) = u by omega] at m2
  rw [show 0 + t = t by omega] at m1
  have m0 : (runI q px ps noI s L 0).1 10 = s 10 := rfl
  omega
theorem c_astern {v : tSe} {u : tSh} (hQ : cQ w q px ps) (hB : QB q px ps) (hS : cS (gSh_ints u) (gSh_harm u) s) (hR : RB c s) (hc : c ≤ 800000) (hL : LB q L)
    (hl : cL (gLi_fast (gSh_lines u)) (gLi_place (gSh_lines u)) (gLi_post (gSh_lines u)) (gLi_length (gSh_lines u)) L) :
    ∃ r, f_Se_leastAstern v w u = some r ∧ leastI (asternP q px ps s L) 120 r.1.toInt := by
  unfold f_Se_leastAstern
  refine bind_ex' (c_copy hS hL hl) (fun r1 h1 => ?_)
  obtain ⟨k1, -, k3⟩ := h1
  have loop : ∃ e, lp (fB_Se_leastAstern_10 v w u r1) LF (0, r1.1, r1.2.1, r1.2.2.1, gSh_ints (gSe_probe v), gSh_harm (gSe_probe v), gLi_fast (gSh_lines (gSe_probe v)), gLi_place (gSh_lines (gSe_probe v)), gLi_post (gSh_lines (gSe_probe v)), gLi_length (gSh_lines (gSe_probe v))) = some e ∧ (match e with | Sum.inl x => leastI (asternP q px ps s L) 120 x.1.toInt | Sum.inr _ => leastI (asternP q px ps s L) 120 (-1)) := by
    refine lp_inv (N := 121) (I := fun i t => t.1.toInt = (i : Int) ∧ cS t.2.1 t.2.2.1 (runI q px ps noI s L i).1 ∧ cL t.2.2.2.1 r1.2.2.2.1 r1.2.2.2.2.1 r1.2.2.2.2.2 (runI q px ps noI s L i).2.1 ∧ ∀ t', t' < i → ¬ asternP q px ps s L t') (by decide) ?_ ?_ (i := 0) (by decide) ⟨rfl, k1, k3, fun t' h => absurd h (by omega)⟩
    · rintro i hi ⟨j, f, h, g, pi, ph, pf, pp, po, pl⟩ ih ⟨a1, a2, a3, a4⟩ go
      have a1 : j.toInt = (i : Int) := a1
      have a2 : cS f h (runI q px ps noI s L i).1 := a2
      obtain ⟨b1, b2, -, -⟩ := runI_b hB noI_RB hR hL i
      have c1 : ¬ (120 : Int32) < j := by rw [Int32.lt_iff_toInt_lt, a1]; show ¬ (120 : Int) < _; omega
      simp only [fB_Se_leastAstern_10]
      rw [if_neg c1]
      by_cases d : h = gSh_harm u
      · rw [if_pos d]
        have hh : (runI q px ps noI s L i).1 10 = s 10 := by rw [← a2.harm, d, hS.harm]
        refine bind_ex' (c_stops (v := ((f, h, (g, r1.2.2.2.1, r1.2.2.2.2.1, r1.2.2.2.2.2)), (pi, ph, (pf, pp, po, pl)), gSe_other v)) hQ hB a2 b1 (by omega) b2 a3) (fun r9 h9 => ?_)
        rcases h9 with ⟨e1, e2⟩ | ⟨e1, e2⟩
        · rw [if_neg (by rw [e1]; decide)]
          exact ⟨_, rfl, Or.inl ⟨i, by omega, a1, ⟨hh, e2⟩, a4⟩⟩
        · rw [if_pos e1]
          refine bind_ex' (c_second (v := (f, h, g, r1.2.2.2.1, r1.2.2.2.2.1, r1.2.2.2.2.2)) a2 b1 (by omega) hQ hB b2 a3) (fun r12 h12 => ?_)
          refine go _ ⟨toInt_succ a1 (by omega), h12.2.1, h12.2.2.2, fun t' ht => ?_⟩
          by_cases e : t' = i
          · subst e; exact fun g => e2 g.2
          · exact a4 t' (by omega)
      · rw [if_neg d]
        refine ⟨_, rfl, Or.inr ⟨rfl, fun t ht g => ?_⟩⟩
        rcases Nat.lt_or_ge t i with e | e
        · exact a4 t e g
        · exact d (Int64.toInt_inj.mp (by rw [a2.harm, hS.harm]; exact go_mono hB hR hL e g.1))
    · rintro ⟨j, f, h, g, pi, ph, pf, pp, po, pl⟩ ih ⟨a1, a2, a3, a4⟩
      have a1 : j.toInt = ((121 : Nat) : Int) := a1
      have c1 : (120 : Int32) < j := by rw [Int32.lt_iff_toInt_lt, a1]; decide
      simp only [fB_Se_leastAstern_10]
      rw [if_pos c1]
      exact ⟨_, rfl, Or.inr ⟨rfl, fun t ht => a4 t (by omega)⟩⟩
  refine bind_ex' loop (fun q3 h3 => ?_)
  rcases q3 with x | x
  · exact ⟨x, rfl, h3⟩
  · exact ⟨_, rfl, h3⟩
theorem c_offs {v : tSe} {u : tSh} (hQ : cQ w q px ps) (hB : QB q px ps) (hS : cS (gSh_ints u) (gSh_harm u) s) (hR : RB c s) (hc : c ≤ 800000) (hL : LB q L)
    (hl : cL (gLi_fast (gSh_lines u)) (gLi_place (gSh_lines u)) (gLi_post (gSh_lines u)) (gLi_length (gSh_lines u)) L) :
    ∃ r, f_Se_greatestOff v w u = some r ∧ greatI (offP q px ps s L) 120 r.1.toInt := by
  unfold f_Se_greatestOff
  refine bind_ex' (c_copy hS hL hl) (fun r1 h1 => ?_)
  obtain ⟨k1, -, k3⟩ := h1
  have loop : ∃ e, lp (fB_Se_greatestOff_13 v w u r1) LF (-1, 0, r1.1, r1.2.1, r1.2.2.1, gSh_ints (gSe_probe v), gSh_harm (gSe_probe v), gLi_fast (gSh_lines (gSe_probe v)), gLi_place (gSh_lines (gSe_probe v)), gLi_post (gSh_lines (gSe_probe v)), gLi_length (gSh_lines (gSe_probe v))) = some e ∧ greatI (offP q px ps s L) 120 e.1.toInt := by
    refine lp_inv (N := 121) (I := fun i t => t.2.1.toInt = (i : Int) ∧ cS t.2.2.1 t.2.2.2.1 (runI q px ps noI s L i).1 ∧ cL t.2.2.2.2.1 r1.2.2.2.1 r1.2.2.2.2.1 r1.2.2.2.2.2 (runI q px ps noI s L i).2.1 ∧ ((∃ y : Nat, y < i ∧ t.1.toInt = (y : Int) ∧ offP q px ps s L y ∧ ∀ t', y < t' → t' < i → ¬ offP q px ps s L t') ∨ (t.1.toInt = -1 ∧ ∀ t', t' < i → ¬ offP q px ps s L t'))) (by decide) ?_ ?_ (i := 0) (by decide) ⟨rfl, k1, k3, Or.inr ⟨rfl, fun t' h => absurd h (by omega)⟩⟩
    · rintro i hi ⟨z, j, f, h, g, pi, ph, pf, pp, po, pl⟩ ih ⟨a1, a2, a3, a4⟩ go
      have a1 : j.toInt = (i : Int) := a1
      have a2 : cS f h (runI q px ps noI s L i).1 := a2
      have a4 : (∃ y : Nat, y < i ∧ z.toInt = (y : Int) ∧ offP q px ps s L y ∧ ∀ t', y < t' → t' < i → ¬ offP q px ps s L t') ∨ (z.toInt = -1 ∧ ∀ t', t' < i → ¬ offP q px ps s L t') := a4
      obtain ⟨b1, b2, -, -⟩ := runI_b hB noI_RB hR hL i
      have c1 : ¬ (120 : Int32) < j := by rw [Int32.lt_iff_toInt_lt, a1]; show ¬ (120 : Int) < _; omega
      simp only [fB_Se_greatestOff_13]
      rw [if_neg c1]
      by_cases d : h = gSh_harm u
      · rw [if_pos d]
        have hh : (runI q px ps noI s L i).1 10 = s 10 := by rw [← a2.harm, d, hS.harm]
        refine bind_ex' (c_gets (v := ((f, h, (g, r1.2.2.2.1, r1.2.2.2.2.1, r1.2.2.2.2.2)), (pi, ph, (pf, pp, po, pl)), gSe_other v)) hQ hB a2 b1 (by omega) b2 a3) (fun r9 h9 => ?_)
        refine zlet_ex fun w11 h11 => ?_
        refine bind_ex' (c_second (v := (f, h, g, r1.2.2.2.1, r1.2.2.2.2.1, r1.2.2.2.2.2)) a2 b1 (by omega) hQ hB b2 a3) (fun r12 h12 => ?_)
        refine go _ ⟨toInt_succ a1 (by omega), h12.2.1, h12.2.2.2, ?_⟩
        rcases h9 with ⟨e1, e2⟩ | ⟨e1, e2⟩
        · rw [if_neg (by rw [e1]; decide)] at h11
          exact Or.inl ⟨i, by omega, by show w11.toInt = _; rw [h11]; exact a1, ⟨hh, e2⟩, fun t' h1 h2 => absurd h2 (by omega)⟩
        · rw [if_pos e1] at h11
          rcases a4 with ⟨y, y1, y2, y3, y4⟩ | ⟨y1, y2⟩
          · refine Or.inl ⟨y, by omega, by show w11.toInt = _; rw [h11]; exact y2, y3, fun t' h1 h2 => ?_⟩
            by_cases e : t' = i
            · subst e; exact fun g => e2 g.2
            · exact y4 t' h1 (by omega)
          · refine Or.inr ⟨by show w11.toInt = _; rw [h11]; exact y1, fun t' h2 => ?_⟩
            by_cases e : t' = i
            · subst e; exact fun g => e2 g.2
            · exact y2 t' (by omega)
      · rw [if_neg d]
        have no : ∀ t, i ≤ t → ¬ offP q px ps s L t := fun t e g => d (Int64.toInt_inj.mp (by rw [a2.harm, hS.harm]; exact go_mono hB hR hL e g.1))
        refine ⟨_, rfl, ?_⟩
        rcases a4 with ⟨y, y1, y2, y3, y4⟩ | ⟨y1, y2⟩
        · refine Or.inl ⟨y, by omega, y2, y3, fun t' h1 h2 => ?_⟩
          rcases Nat.lt_or_ge t' i with e | e
          · exact y4 t' h1 e
          · exact no t' e
        · refine Or.inr ⟨y1, fun t' h2 => ?_⟩
          rcases Nat.lt_or_ge t' i with e | e
          · exact y2 t' e
          · exact no t' e
    · rintro ⟨z, j, f, h, g, pi, ph, pf, pp, po, pl⟩ ih ⟨a1, a2, a3, a4⟩
      have a1 : j.toInt = ((121 : Nat) : Int) := a1
      have c1 : (120 : Int32) < j := by rw [Int32.lt_iff_toInt_lt, a1]; decide
      simp only [fB_Se_greatestOff_13]
      rw [if_pos c1]
      refine ⟨_, rfl, ?_⟩
      rcases a4 with ⟨y, y1, y2, y3, y4⟩ | ⟨y1, y2⟩
      · exact Or.inl ⟨y, by omega, y2, y3, fun t' h1 h2 => y4 t' h1 (by omega)⟩
      · exact Or.inr ⟨y1, fun t' h2 => y2 t' (by omega)⟩
  refine bind_ex' loop (fun q3 h3 => ?_)
  exact ⟨_, rfl, h3⟩
end
