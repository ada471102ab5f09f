/-! THE PURE SIDE 14: how the class seeks by the plan -/
theorem QB.wind {q px ps : Nat → Int} (hB : QB q px ps) {x : Int} (h1 : 0 ≤ x) (h2 : x ≤ 99) : QB (us q 10 x) px ps := by
  unfold QB at hB ⊢
  simp (disch := decide) only [us_eq, us_ne]
  obtain ⟨b1, b2, b3, b4, b5, b6, b7, b8, b9, b10, b11, b12, b13, b14⟩ := hB
  exact ⟨b1, b2, b3, b4, b5, b6, b7, b8, b9, ⟨h1, h2⟩, b11, b12, b13, b14⟩
theorem QB.gap {q px ps : Nat → Int} (hB : QB q px ps) {x : Int} (h1 : 0 ≤ x) (h2 : x < q 1) : QB (us q 0 x) px ps := by
  unfold QB at hB ⊢
  simp (disch := decide) only [us_eq, us_ne]
  obtain ⟨b1, b2, b3, b4, b5, b6, b7, b8, b9, b10, b11, b12, b13, b14⟩ := hB
  exact ⟨⟨h1, h2, b1.2.2⟩, b2, b3, b4, b5, b6, b7, b8, b9, b10, b11, b12, b13, b14⟩
theorem LB.us {q L : Nat → Int} (hL : LB q L) {k : Nat} {x : Int} (hk : 13 ≠ k) : LB (us q k x) L := by
  unfold LB at hL ⊢
  rw [us_ne _ _ hk]; exact hL
theorem cQ.us {w : tQu} {q px ps : Nat → Int} (hQ : cQ w q px ps) {k : Nat} {x : Int} {z : Int32} (hk : 13 ≠ k) (hz : z.toInt = x) : cQ (upd (gQu_ints w) k z, gQu_places w, gQu_strengths w) (us q k x) px ps := by
  refine ⟨fun j hj => ?_, fun j hj => ?_⟩
  · show (upd (gQu_ints w) k z j).toInt = _
    by_cases e : j = k
    · subst e; rw [upd_eq, us_eq]; exact hz
    · rw [upd_ne _ _ e, us_ne _ _ e]; exact hQ.1 j hj
  · rw [us_ne _ _ hk] at hj; exact hQ.2 j hj
theorem us_us (q : Nat → Int) (k : Nat) (x y : Int) : us (us q k x) k y = us q k y := by
  funext j
  by_cases e : j = k
  · subst e; rw [us_eq, us_eq]
  · rw [us_ne _ _ e, us_ne _ _ e, us_ne _ _ e]
theorem us_self (q : Nat → Int) (k : Nat) : us q k (q k) = q := by
  funext j
  by_cases e : j = k
  · subst e; rw [us_eq]
  · rw [us_ne _ _ e]
section
variable {w : tQu} {y : tPl} {n : Nat} {T E R : Nat → Int} {q px ps s L : Nat → Int} {c : Int}
theorem pl10 (n : Nat) (T E R : Nat → Int) : ∀ (k : Nat) (t : Nat → Int), plI n T E R k t 10 = t 10 := fun k t => stI_10 T E R n (k : Int) t
theorem c_byplan {v : tSe} (hQ : cQ w q px ps) (hB : QB q px ps) (hP : PB n T E R) (hy : cP y n T E R) (hS : cS (gSh_ints (gSe_probe v)) (gSh_harm (gSe_probe v)) s) (hR : RB c s) (hc : c ≤ 900000) (hL : LB q L)
    (hl : cL (gLi_fast (gSh_lines (gSe_probe v))) (gLi_place (gSh_lines (gSe_probe v))) (gLi_post (gSh_lines (gSe_probe v))) (gLi_length (gSh_lines (gSe_probe v))) L) {p : Int32} {N : Nat} (hp : p.toInt = (N : Int)) (h2 : N ≤ 600) :
    ∃ r, f_Se_isSafeByPlan v w y p = some r ∧ ((r.1 = 1 ∧ planP q px ps n T E R s L N) ∨ (r.1 = 0 ∧ ¬ planP q px ps n T E R s L N)) := by
  unfold f_Se_isSafeByPlan planP
  have loop : ∃ e, lp (fB_Se_isSafeByPlan_15 v w y p) LF (0, 0, gSh_ints (gSe_probe v), gSh_harm (gSe_probe v), gLi_fast (gSh_lines (gSe_probe v))) = some e ∧ ((e.2.2.2.1 = gSh_harm (gSe_probe v) ∧ cS e.2.2.1 e.2.2.2.1 (runI q px ps (plI n T E R) s L N).1) ∨ (¬ e.2.2.2.1 = gSh_harm (gSe_probe v) ∧ ¬ (runI q px ps (plI n T E R) s L N).1 10 = s 10)) := by
    refine lp_inv (N := N) (I := fun i t => (∃ p' : Nat, t.1.toInt = (p' : Int) ∧ cN n T (i : Int) p') ∧ t.2.1.toInt = (i : Int) ∧ cS t.2.2.1 t.2.2.2.1 (runI q px ps (plI n T E R) s L i).1 ∧ cL t.2.2.2.2 (gLi_place (gSh_lines (gSe_probe v))) (gLi_post (gSh_lines (gSe_probe v))) (gLi_length (gSh_lines (gSe_probe v))) (runI q px ps (plI n T E R) s L i).2.1) (by omega) ?_ ?_ (i := 0) (by omega) ⟨⟨0, rfl, cN0 hP⟩, rfl, hS, hl⟩
    · rintro i hi ⟨nx, j, f, h, g⟩ ih ⟨⟨p', an, aN⟩, a2, a3, a5⟩ go
      have a2 : j.toInt = (i : Int) := a2
      have a3 : cS f h (runI q px ps (plI n T E R) s L i).1 := a3
      obtain ⟨b1, b2, b3, b4⟩ := runI_b hB (plI_RB hP) hR hL i
      simp only [fB_Se_isSafeByPlan_15]
      rw [if_neg (lt_lit a2 hp hi)]
      by_cases d : h = gSh_harm (gSe_probe v)
      · rw [if_pos d]
        refine bind_ex' (c_steer (v := (f, h, g, gLi_place (gSh_lines (gSe_probe v)), gLi_post (gSh_lines (gSe_probe v)), gLi_length (gSh_lines (gSe_probe v)))) hP hy a3 an a2 aN) (fun r7 h7 => ?_)
        refine bind_ex' (c_second (v := (r7.2, h, g, gLi_place (gSh_lines (gSe_probe v)), gLi_post (gSh_lines (gSe_probe v)), gLi_length (gSh_lines (gSe_probe v)))) h7.2.1 (plI_RB hP i _ _ b1) (by omega) hQ hB b2 a5) (fun r8 h8 => ?_)
        obtain ⟨p2, e1, e2⟩ := h7.1
        exact go _ ⟨⟨p2, e1, by rw [show ((i + 1 : Nat) : Int) = (i : Int) + 1 by omega]; exact e2⟩, toInt_succ a2 (by omega), h8.2.1, h8.2.2.2⟩
      · rw [if_neg d]
        refine ⟨_, rfl, Or.inr ⟨d, fun g => d (Int64.toInt_inj.mp ?_)⟩⟩
        have m1 := runI_harm hB (plI_RB hP) (pl10 n T E R) hR hL 0 i
        have m2 := runI_harm hB (plI_RB hP) (pl10 n T E R) hR hL i (N - i)
        rw [show i + (N - i) = N by omega] at m2
        rw [show 0 + i = i by omega] at m1
        have m0 : (runI q px ps (plI n T E R) s L 0).1 10 = s 10 := rfl
        rw [a3.harm, hS.harm]
        omega
    · rintro ⟨nx, j, f, h, g⟩ ih ⟨an, a2, a3, a5⟩
      have a2 : j.toInt = (N : Int) := a2
      have a3 : cS f h (runI q px ps (plI n T E R) s L N).1 := a3
      simp only [fB_Se_isSafeByPlan_15]
      rw [if_pos (ge_lit a2 hp (by omega))]
      refine ⟨_, rfl, ?_⟩
      by_cases d : h = gSh_harm (gSe_probe v)
      · exact Or.inl ⟨d, a3⟩
      · exact Or.inr ⟨d, fun g => d (Int64.toInt_inj.mp (by rw [a3.harm, hS.harm, g]))⟩
  refine bind_ex' loop (fun q3 h3 => ?_)
  obtain ⟨b1, b2, -, -⟩ := runI_b hB (plI_RB hP) hR hL N
  rcases h3 with ⟨d, k⟩ | ⟨d, k⟩
  · rw [if_pos d]
    have hh : (runI q px ps (plI n T E R) s L N).1 10 = s 10 := by rw [← k.harm, d, hS.harm]
    rcases c_safe (v := (q3.2.2.1, q3.2.2.2.1, (q3.2.2.2.2, gLi_place (gSh_lines (gSe_probe v)), gLi_post (gSh_lines (gSe_probe v)), gLi_length (gSh_lines (gSe_probe v))))) hQ hB k b1 with ⟨e1, e2⟩ | ⟨e1, e2⟩
    · rw [e2, if_neg (show ¬ (1 : Int32) = 0 by decide)]
      exact ⟨_, rfl, Or.inl ⟨rfl, hh, e1⟩⟩
    · rw [e2, if_pos rfl]
      exact ⟨_, rfl, Or.inr ⟨rfl, fun g => e1 g.2⟩⟩
  · rw [if_neg d]
    exact ⟨_, rfl, Or.inr ⟨rfl, fun g => k g.1⟩⟩
theorem byplan_other (v : tSe) (y : tPl) (p : Int32) : f_Se_isSafeByPlan_other v y p = f_Se_isSafeByPlan v (gSe_other v) y p := rfl
theorem c_wind {v : tSe} {u : tSh} (hQ : cQ w q px ps) (hB : QB q px ps) (hP : PB n T E R) (hy : cP y n T E R) (hS : cS (gSh_ints u) (gSh_harm u) s) (hR : RB c s) (hc : c ≤ 800000) (hL : LB q L)
    (hl : cL (gLi_fast (gSh_lines u)) (gLi_place (gSh_lines u)) (gLi_post (gSh_lines u)) (gLi_length (gSh_lines u)) L) {p : Int32} {N : Nat} (hp : p.toInt = (N : Int)) (h2 : N ≤ 600) :
    ∃ r, f_Se_greatestWind v w u y p = some r ∧ greatI (fun f => planP (us q 10 (f : Int)) px ps n T E R s L N) 99 r.1.toInt := by
  unfold f_Se_greatestWind
  refine bind_ex' (c_qcopy hQ hB) (fun r1 h1 => ?_)
  have loop : ∃ e, lp (fB_Se_greatestWind_12 v u y p r1) LF (99, gSh_ints (gSe_probe v), gSh_harm (gSe_probe v), gLi_fast (gSh_lines (gSe_probe v)), gLi_place (gSh_lines (gSe_probe v)), gLi_post (gSh_lines (gSe_probe v)), gLi_length (gSh_lines (gSe_probe v)), r1.1) = some e ∧ (match e with | Sum.inl x => greatI (fun f => planP (us q 10 (f : Int)) px ps n T E R s L N) 99 x.1.toInt | Sum.inr _ => greatI (fun f => planP (us q 10 (f : Int)) px ps n T E R s L N) 99 (-1)) := by
    refine lp_inv (N := 100) (I := fun i t => t.1.toInt = 99 - (i : Int) ∧ (∃ q' : Nat → Int, cQ (t.2.2.2.2.2.2.2, r1.2.1, r1.2.2) q' px ps ∧ us q' 10 (q 10) = q) ∧ ∀ f : Nat, f ≤ 99 → 100 - i ≤ f → ¬ planP (us q 10 (f : Int)) px ps n T E R s L N) (by decide) ?_ ?_ (i := 0) (by decide) ⟨rfl, ⟨q, h1, us_self q 10⟩, fun f h1 h2 => absurd h2 (by omega)⟩
    · rintro i hi ⟨j, pi, ph, pf, pp, po, pl, qi⟩ ih ⟨a1, ⟨q', a2, a3⟩, a4⟩ go
      have a1 : j.toInt = 99 - (i : Int) := a1
      have a2 : cQ (qi, r1.2.1, r1.2.2) q' px ps := a2
      have c1 : ¬ j < 0 := by rw [Int32.lt_iff_toInt_lt, a1]; show ¬ (99 - (i : Int)) < 0; omega
      simp only [fB_Se_greatestWind_12]
      rw [if_neg c1]
      refine bind_ex' (c_copy hS hL hl) (fun r8 h8 => ?_)
      have qe : us q' 10 (99 - (i : Int)) = us q 10 (99 - (i : Int)) := by rw [← a3, us_us]
      have hQ' := a2.us (k := 10) (by decide) a1
      rw [qe] at hQ'
      have fe : ((99 - i : Nat) : Int) = 99 - (i : Int) := by omega
      rw [byplan_other]
      refine bind_ex' (c_byplan (v := (gSe_base v, (r8.1, r8.2.1, (r8.2.2.1, r8.2.2.2.1, r8.2.2.2.2.1, r8.2.2.2.2.2)), (upd qi 10 j, r1.2.1, r1.2.2))) hQ' (hB.wind (by omega) (by omega)) hP hy h8.1 hR (by omega) (hL.us (by decide)) h8.2.2 hp h2) (fun r9 h9 => ?_)
      rcases h9 with ⟨e1, e2⟩ | ⟨e1, e2⟩
      · rw [if_neg (by rw [e1]; decide)]
        refine ⟨_, rfl, Or.inl ⟨99 - i, by omega, by show j.toInt = _; omega, by show planP (us q 10 ((99 - i : Nat) : Int)) px ps n T E R s L N; rw [fe]; exact e2, fun t' t1 t2 => a4 t' t2 (by omega)⟩⟩
      · rw [if_pos e1]
        refine go _ ⟨?_, ⟨us q 10 (99 - (i : Int)), hQ', by rw [us_us]; exact us_self q 10⟩, fun f f1 f2 => ?_⟩
        · show (j + (-1)).toInt = _
          rw [toInt_pred a1 (by omega)]; omega
        · by_cases e : f = 99 - i
          · subst e; rw [fe]; exact e2
          · exact a4 f f1 (by omega)
    · rintro ⟨j, pi, ph, pf, pp, po, pl, qi⟩ ih ⟨a1, a2, a4⟩
      have a1 : j.toInt = -1 := a1
      have c1 : j < 0 := by rw [Int32.lt_iff_toInt_lt, a1]; decide
      simp only [fB_Se_greatestWind_12]
      rw [if_pos c1]
      exact ⟨_, rfl, Or.inr ⟨rfl, fun t ht => a4 t ht (by omega)⟩⟩
  refine bind_ex' loop (fun q3 h3 => ?_)
  rcases q3 with x | x
  · exact ⟨x, rfl, h3⟩
  · exact ⟨_, rfl, h3⟩
/-- the gap that is found: B less the greatest of A, A and 50, .. -/
def gapI (q : Nat → Int) (P : Nat → Prop) (K : Nat) (r : Int) : Prop := (∃ k : Nat, k ≤ K ∧ r = q 1 - (q 0 + 50 * (k : Int)) ∧ P k ∧ ∀ k', k < k' → k' ≤ K → ¬ P k') ∨ (r = -1 ∧ ∀ k, k ≤ K → ¬ P k)
theorem gapI_uniq {q : Nat → Int} {P : Nat → Prop} {N : Nat} {r x : Int} (h1 : gapI q P N r) (h2 : gapI q P N x) : r = x := by
  rcases h1 with ⟨t, a1, a2, a3, a4⟩ | ⟨a1, a2⟩ <;> rcases h2 with ⟨u, b1, b2, b3, b4⟩ | ⟨b1, b2⟩
  · rcases Nat.lt_trichotomy t u with g | g | g
    · exact absurd b3 (a4 u g b1)
    · subst g; omega
    · exact absurd a3 (b4 t g a1)
  · exact absurd a3 (b2 t a1)
  · exact absurd b3 (a2 u b1)
  · omega
theorem c_gaps {v : tSe} {u : tSh} (hQ : cQ w q px ps) (hB : QB q px ps) (hP : PB n T E R) (hy : cP y n T E R) (hS : cS (gSh_ints u) (gSh_harm u) s) (hR : RB c s) (hc : c ≤ 800000) (hL : LB q L)
    (hl : cL (gLi_fast (gSh_lines u)) (gLi_place (gSh_lines u)) (gLi_post (gSh_lines u)) (gLi_length (gSh_lines u)) L) {p : Int32} {N : Nat} (hp : p.toInt = (N : Int)) (h2 : N ≤ 600) :
    ∃ r, f_Se_leastGap v w u y p = some r ∧ gapI q (fun k => planP (us q 0 (q 0 + 50 * (k : Int))) px ps n T E R s L N) ((q 1 - 1 - q 0) / 50).toNat r.1.toInt := by
  have b1 := hB.1
  have w0 : rp (gQu_ints w 0) (q 0) 9999 := ⟨hQ.1 0 (by decide), by omega, by omega⟩
  have w1 : rp (gQu_ints w 1) (q 1) 9999 := ⟨hQ.1 1 (by decide), by omega, by omega⟩
  unfold f_Se_leastGap
  refine zlet_ex fun z1 hz1 => ?_
  have kz := ((w1.sub (rp.lit 1 1 (a := 1) rfl rfl) (by decide)).sub w0 (by decide)).divk (b := 50) 50 50 rfl rfl (by decide) (by decide)
  rw [← hz1] at kz
  have ke : (q 1 - 1 - q 0).tdiv 50 = (((q 1 - 1 - q 0) / 50).toNat : Int) := by
    rw [Int.tdiv_eq_ediv_of_nonneg (by omega)]
    have : 0 ≤ (q 1 - 1 - q 0) / 50 := Int.ediv_nonneg (by omega) (by decide)
    omega
  rw [ke] at kz
  have kub : (((q 1 - 1 - q 0) / 50).toNat : Int) * 50 ≤ q 1 - 1 - q 0 := by
    have : 0 ≤ (q 1 - 1 - q 0) / 50 := Int.ediv_nonneg (by omega) (by decide)
    omega
  generalize ((q 1 - 1 - q 0) / 50).toNat = K at kz kub
  refine bind_ex' (c_qcopy hQ hB) (fun r1 h1 => ?_)
  have loop : ∃ e, lp (fB_Se_leastGap_28 v w u y p r1) LF (z1, gSh_ints (gSe_probe v), gSh_harm (gSe_probe v), gLi_fast (gSh_lines (gSe_probe v)), gLi_place (gSh_lines (gSe_probe v)), gLi_post (gSh_lines (gSe_probe v)), gLi_length (gSh_lines (gSe_probe v)), r1.1) = some e ∧ (match e with | Sum.inl x => gapI q (fun k => planP (us q 0 (q 0 + 50 * (k : Int))) px ps n T E R s L N) K x.1.toInt | Sum.inr _ => gapI q (fun k => planP (us q 0 (q 0 + 50 * (k : Int))) px ps n T E R s L N) K (-1)) := by
    refine lp_inv (N := K + 1) (I := fun i t => t.1.toInt = (K : Int) - (i : Int) ∧ (∃ q' : Nat → Int, cQ (t.2.2.2.2.2.2.2, r1.2.1, r1.2.2) q' px ps ∧ us q' 0 (q 0) = q) ∧ ∀ f : Nat, f ≤ K → K + 1 - i ≤ f → ¬ planP (us q 0 (q 0 + 50 * (f : Int))) px ps n T E R s L N) (by omega) ?_ ?_ (i := 0) (by omega) ⟨by show z1.toInt = _; rw [kz.1]; omega, ⟨q, h1, us_self q 0⟩, fun f h1 h2 => absurd h2 (by omega)⟩
    · rintro i hi ⟨j, pi, ph, pf, pp, po, pl, qi⟩ ih ⟨a1, ⟨q', a2, a3⟩, a4⟩ go
      have a1 : j.toInt = (K : Int) - (i : Int) := a1
      have a2 : cQ (qi, r1.2.1, r1.2.2) q' px ps := a2
      have c1 : ¬ j < 0 := by rw [Int32.lt_iff_toInt_lt, a1]; show ¬ ((K : Int) - (i : Int)) < 0; omega
      have fe : ((K - i : Nat) : Int) = (K : Int) - (i : Int) := by omega
      rw [← fe] at a1
      simp only [fB_Se_leastGap_28]
      rw [if_neg c1]
      refine zlet_ex fun z9 hz9 => ?_
      have k9 := w0.add ((rp.of 9999 a1 (by omega) (by omega)).mul (rp.lit 50 50 (a := 50) rfl rfl) (by decide)) (by decide)
      rw [← hz9] at k9
      have k9e : z9.toInt = q 0 + 50 * ((K - i : Nat) : Int) := by rw [k9.1]; omega
      refine bind_ex' (c_copy hS hL hl) (fun r8 h8 => ?_)
      have qe : us q' 0 (q 0 + 50 * ((K - i : Nat) : Int)) = us q 0 (q 0 + 50 * ((K - i : Nat) : Int)) := by
        have := us_us q' 0 (q 0) (q 0 + 50 * ((K - i : Nat) : Int))
        rw [a3] at this
        exact this.symm
      have q1e : q' 1 = q 1 := by rw [← a3, us_ne _ _ (by decide)]
      have hQ' := a2.us (k := 0) (by decide) k9e
      rw [qe] at hQ'
      rw [byplan_other]
      refine bind_ex' (c_byplan (v := (gSe_base v, (r8.1, r8.2.1, (r8.2.2.1, r8.2.2.2.1, r8.2.2.2.2.1, r8.2.2.2.2.2)), (upd qi 0 z9, r1.2.1, r1.2.2))) hQ' (hB.gap (by omega) (by omega)) hP hy h8.1 hR (by omega) (hL.us (by decide)) h8.2.2 hp h2) (fun r9 h9 => ?_)
      rcases h9 with ⟨e1, e2⟩ | ⟨e1, e2⟩
      · rw [if_neg (by rw [e1]; decide)]
        refine ⟨_, rfl, Or.inl ⟨K - i, by omega, ?_, e2, fun t' t1 t2 => a4 t' t2 (by omega)⟩⟩
        have q1r : rp (qi 1) (q 1) 9999 := ⟨(a2.1 1 (by decide)).trans q1e, by omega, by omega⟩
        show (qi 1 - z9).toInt = _
        rw [(q1r.sub (rp.of 100000 k9e (by omega) (by omega)) (by decide)).1]
      · rw [if_pos e1]
        refine go _ ⟨?_, ⟨us q 0 (q 0 + 50 * ((K - i : Nat) : Int)), hQ', by rw [us_us]; exact us_self q 0⟩, fun f f1 f2 => ?_⟩
        · show (j + (-1)).toInt = _
          rw [toInt_pred a1 (by omega)]; omega
        · by_cases e : f = K - i
          · subst e; exact e2
          · exact a4 f f1 (by omega)
    · rintro ⟨j, pi, ph, pf, pp, po, pl, qi⟩ ih ⟨a1, a2, a4⟩
      have a1 : j.toInt = (K : Int) - ((K + 1 : Nat) : Int) := a1
      have c1 : j < 0 := by rw [Int32.lt_iff_toInt_lt, a1]; show (K : Int) - ((K + 1 : Nat) : Int) < 0; omega
      simp only [fB_Se_leastGap_28]
      rw [if_pos c1]
      exact ⟨_, rfl, Or.inr ⟨rfl, fun t ht => a4 t ht (by omega)⟩⟩
  refine bind_ex' loop (fun q3 h3 => ?_)
  rcases q3 with x | x
  · exact ⟨x, rfl, h3⟩
  · exact ⟨_, rfl, h3⟩
theorem tug_RB (hR : RB c s) {x : Int} (h1 : 0 ≤ x) (h2 : x ≤ 99) : RB c (us s 8 x) := by
  unfold RB SB at hR ⊢
  simp (disch := decide) only [us_eq, us_ne]
  omega
theorem c_tug {v : tSe} {u : tSh} (hQ : cQ w q px ps) (hB : QB q px ps) (hP : PB n T E R) (hy : cP y n T E R) (hS : cS (gSh_ints u) (gSh_harm u) s) (hR : RB c s) (hc : c ≤ 800000) (hL : LB q L)
    (hl : cL (gLi_fast (gSh_lines u)) (gLi_place (gSh_lines u)) (gLi_post (gSh_lines u)) (gLi_length (gSh_lines u)) L) {p : Int32} {N : Nat} (hp : p.toInt = (N : Int)) (h2 : N ≤ 600) :
    ∃ r, f_Se_leastTug v w u y p = some r ∧ leastI (fun x => planP q px ps n T E R (us s 8 (x : Int)) L N) 99 r.1.toInt := by
  unfold f_Se_leastTug
  have loop : ∃ e, lp (fB_Se_leastTug_3 v w u y p) LF (0, gSh_ints (gSe_probe v), gSh_harm (gSe_probe v), gLi_fast (gSh_lines (gSe_probe v)), gLi_place (gSh_lines (gSe_probe v)), gLi_post (gSh_lines (gSe_probe v)), gLi_length (gSh_lines (gSe_probe v))) = some e ∧ (match e with | Sum.inl x => leastI (fun x => planP q px ps n T E R (us s 8 (x : Int)) L N) 99 x.1.toInt | Sum.inr _ => leastI (fun x => planP q px ps n T E R (us s 8 (x : Int)) L N) 99 (-1)) := by
    refine lp_inv (N := 100) (I := fun i t => t.1.toInt = (i : Int) ∧ ∀ f : Nat, f < i → ¬ planP q px ps n T E R (us s 8 (f : Int)) L N) (by decide) ?_ ?_ (i := 0) (by decide) ⟨rfl, fun f h2 => absurd h2 (by omega)⟩
    · rintro i hi ⟨j, pi, ph, pf, pp, po, pl⟩ ih ⟨a1, a4⟩ go
      have a1 : j.toInt = (i : Int) := a1
      have c1 : ¬ 99 < j := by rw [Int32.lt_iff_toInt_lt, a1]; show ¬ (99 : Int) < i; omega
      simp only [fB_Se_leastTug_3]
      rw [if_neg c1]
      refine bind_ex' (c_copy hS hL hl) (fun r8 h8 => ?_)
      refine bind_ex' (c_byplan (v := (gSe_base v, (upd r8.1 8 j, r8.2.1, (r8.2.2.1, r8.2.2.2.1, r8.2.2.2.2.1, r8.2.2.2.2.2)), gSe_other v)) hQ hB hP hy (h8.1.upd8 a1) (tug_RB hR (by omega) (by omega)) (by omega) hL h8.2.2 hp h2) (fun r9 h9 => ?_)
      rcases h9 with ⟨e1, e2⟩ | ⟨e1, e2⟩
      · rw [if_neg (by rw [e1]; decide)]
        exact ⟨_, rfl, Or.inl ⟨i, by omega, a1, e2, a4⟩⟩
      · rw [if_pos e1]
        refine go _ ⟨toInt_succ a1 (by omega), fun f f2 => ?_⟩
        by_cases e : f = i
        · subst e; exact e2
        · exact a4 f (by omega)
    · rintro ⟨j, pi, ph, pf, pp, po, pl⟩ ih ⟨a1, a4⟩
      have a1 : j.toInt = ((100 : Nat) : Int) := a1
      have c1 : 99 < j := by rw [Int32.lt_iff_toInt_lt, a1]; decide
      simp only [fB_Se_leastTug_3]
      rw [if_pos c1]
      exact ⟨_, rfl, Or.inr ⟨rfl, fun t ht => a4 t (by omega)⟩⟩
  refine bind_ex' loop (fun q3 h3 => ?_)
  rcases q3 with x | x
  · exact ⟨x, rfl, h3⟩
  · exact ⟨_, rfl, h3⟩
end
