/-! THE PURE SIDE 12: go, by plan; whether she is safe -/
def noI : Nat → (Nat → Int) → Nat → Int := fun _ s => s
def plI (n : Nat) (T E R : Nat → Int) : Nat → (Nat → Int) → Nat → Int := fun k s => stI T E R n (k : Int) s
theorem noI_RB : ∀ (k : Nat) (c : Int) (s : Nat → Int), RB c s → RB c (noI k s) := fun _ _ _ h => h
theorem plI_RB {n : Nat} {T E R : Nat → Int} (hP : PB n T E R) : ∀ (k : Nat) (c : Int) (s : Nat → Int), RB c s → RB c (plI n T E R k s) := fun _ _ _ h => stI_RB hP h n (Nat.le_refl _)
theorem c_go {v : tAL} {q px ps s L : Nat → Int} {c : Int} (hQ : cQ (gAL_quay v) q px ps) (hB : QB q px ps) (hS : cS (gSh_ints (gAL_ship v)) (gSh_harm (gAL_ship v)) s) (hR : RB c s) (hc : c ≤ 900000) (hL : LB q L)
    (hl : cL (gLi_fast (gSh_lines (gAL_ship v))) (gLi_place (gSh_lines (gAL_ship v))) (gLi_post (gSh_lines (gAL_ship v))) (gLi_length (gSh_lines (gAL_ship v))) L) {p : Int32} {N : Nat} (hp : p.toInt = (N : Int)) (h1 : 1 ≤ N) (h2 : N ≤ 600) :
    ∃ r, f_AL_go v p = some r ∧ (r.1.toInt = (runI q px ps noI s L N).2.2 ∧ cS r.2.1 r.2.2.1 (runI q px ps noI s L N).1 ∧ r.2.1 12 = gSh_ints (gAL_ship v) 12 ∧ cL r.2.2.2 (gLi_place (gSh_lines (gAL_ship v))) (gLi_post (gSh_lines (gAL_ship v))) (gLi_length (gSh_lines (gAL_ship v))) (runI q px ps noI s L N).2.1) := by
  have c1 : ¬ p < 1 := by rw [Int32.lt_iff_toInt_lt, hp]; show ¬ (N : Int) < 1; omega
  have c2 : p ≤ 600 := by rw [Int32.le_iff_toInt_le, hp]; show (N : Int) ≤ 600; omega
  unfold f_AL_go
  rw [if_neg c1, if_pos c2]
  have loop : ∃ e, lp (fB_AL_go_19 v p) LF (0, 0, gSh_ints (gAL_ship v), gSh_harm (gAL_ship v), gLi_fast (gSh_lines (gAL_ship v))) = some e ∧ (e.1.toInt = (runI q px ps noI s L N).2.2 ∧ cS e.2.2.1 e.2.2.2.1 (runI q px ps noI s L N).1 ∧ e.2.2.1 12 = gSh_ints (gAL_ship v) 12 ∧ cL e.2.2.2.2 (gLi_place (gSh_lines (gAL_ship v))) (gLi_post (gSh_lines (gAL_ship v))) (gLi_length (gSh_lines (gAL_ship v))) (runI q px ps noI s L N).2.1) := by
    refine lp_inv (N := N) (I := fun i t => t.1.toInt = (runI q px ps noI s L i).2.2 ∧ t.2.1.toInt = (i : Int) ∧ cS t.2.2.1 t.2.2.2.1 (runI q px ps noI s L i).1 ∧ t.2.2.1 12 = gSh_ints (gAL_ship v) 12 ∧ cL t.2.2.2.2 (gLi_place (gSh_lines (gAL_ship v))) (gLi_post (gSh_lines (gAL_ship v))) (gLi_length (gSh_lines (gAL_ship v))) (runI q px ps noI s L i).2.1) (by omega) ?_ ?_ (i := 0) (by omega) ⟨rfl, rfl, hS, rfl, hl⟩
    · rintro i hi ⟨n, j, f, h, g⟩ ih ⟨a1, a2, a3, a4, a5⟩ go
      have a1 : n.toInt = (runI q px ps noI s L i).2.2 := a1
      have a2 : j.toInt = (i : Int) := a2
      obtain ⟨b1, b2, b3, b4⟩ := runI_b hB noI_RB hR hL i
      simp only [fB_AL_go_19]
      rw [if_neg (lt_lit a2 hp hi)]
      refine bind_ex' (c_second (v := (f, h, g, gLi_place (gSh_lines (gAL_ship v)), gLi_post (gSh_lines (gAL_ship v)), gLi_length (gSh_lines (gAL_ship v)))) a3 b1 (by omega) hQ hB b2 a5) (fun r9 h9 => ?_)
      refine zlet_ex fun z10 h10 => ?_
      have pb := partedI_b q px ps (runI q px ps noI s L i).1 (runI q px ps noI s L i).2.1 6
      have k10 := (rp.of 3600 a1 (by omega) (by omega)).add (rp.of 6 h9.1 (by omega) (by omega)) (by decide)
      rw [← h10] at k10
      exact go _ ⟨k10.1, toInt_succ a2 (by omega), h9.2.1, h9.2.2.1.trans a4, h9.2.2.2⟩
    · rintro ⟨n, j, f, h, g⟩ ih ⟨a1, a2, a3, a4, a5⟩
      have a2 : j.toInt = (N : Int) := a2
      simp only [fB_AL_go_19]
      rw [if_pos (ge_lit a2 hp (by omega))]
      exact ⟨_, rfl, a1, a3, a4, a5⟩
  exact bind_ex' loop (fun q4 h4 => ⟨_, rfl, h4⟩)
theorem c_plan {v : tSh} {w : tQu} {u : tPl} {n : Nat} {T E R : Nat → Int} {q px ps s L : Nat → Int} {c : Int} (hQ : cQ w q px ps) (hB : QB q px ps) (hP : PB n T E R) (hu : cP u n T E R) (hS : cS (gSh_ints v) (gSh_harm v) s) (hR : RB c s) (hc : c ≤ 900000) (hL : LB q L)
    (hl : cL (gLi_fast (gSh_lines v)) (gLi_place (gSh_lines v)) (gLi_post (gSh_lines v)) (gLi_length (gSh_lines v)) L) {p : Int32} {N : Nat} (hp : p.toInt = (N : Int)) (h2 : N ≤ 600) :
    ∃ r, f_Sh_passByPlan v w u p = some r ∧ (r.1.toInt = (runI q px ps (plI n T E R) s L N).2.2 ∧ cS r.2.1 r.2.2.1 (runI q px ps (plI n T E R) s L N).1 ∧ r.2.1 12 = gSh_ints v 12 ∧ cL r.2.2.2 (gLi_place (gSh_lines v)) (gLi_post (gSh_lines v)) (gLi_length (gSh_lines v)) (runI q px ps (plI n T E R) s L N).2.1) := by
  unfold f_Sh_passByPlan
  have loop : ∃ e, lp (fB_Sh_passByPlan_9 v w u p) LF (0, 0, 0, gSh_ints v, gSh_harm v, gLi_fast (gSh_lines v)) = some e ∧ (e.1.toInt = (runI q px ps (plI n T E R) s L N).2.2 ∧ cS e.2.2.2.1 e.2.2.2.2.1 (runI q px ps (plI n T E R) s L N).1 ∧ e.2.2.2.1 12 = gSh_ints v 12 ∧ cL e.2.2.2.2.2 (gLi_place (gSh_lines v)) (gLi_post (gSh_lines v)) (gLi_length (gSh_lines v)) (runI q px ps (plI n T E R) s L N).2.1) := by
    refine lp_inv (N := N) (I := fun i t => t.1.toInt = (runI q px ps (plI n T E R) s L i).2.2 ∧ (∃ p' : Nat, t.2.1.toInt = (p' : Int) ∧ cN n T (i : Int) p') ∧ t.2.2.1.toInt = (i : Int) ∧ cS t.2.2.2.1 t.2.2.2.2.1 (runI q px ps (plI n T E R) s L i).1 ∧ t.2.2.2.1 12 = gSh_ints v 12 ∧ cL t.2.2.2.2.2 (gLi_place (gSh_lines v)) (gLi_post (gSh_lines v)) (gLi_length (gSh_lines v)) (runI q px ps (plI n T E R) s L i).2.1) (by omega) ?_ ?_ (i := 0) (by omega) ⟨rfl, ⟨0, rfl, cN0 hP⟩, rfl, hS, rfl, hl⟩
    · rintro i hi ⟨n1, nx, j, f, h, g⟩ ih ⟨a1, ⟨p', an, aN⟩, a2, a3, a4, a5⟩ go
      have a1 : n1.toInt = (runI q px ps (plI n T E R) s L i).2.2 := a1
      have a2 : j.toInt = (i : Int) := a2
      obtain ⟨b1, b2, b3, b4⟩ := runI_b hB (plI_RB hP) hR hL i
      simp only [fB_Sh_passByPlan_9]
      rw [if_neg (lt_lit a2 hp hi)]
      refine bind_ex' (c_steer (v := (f, h, g, gLi_place (gSh_lines v), gLi_post (gSh_lines v), gLi_length (gSh_lines v))) hP hu a3 an a2 aN) (fun r7 h7 => ?_)
      refine bind_ex' (c_second (v := (r7.2, h, g, gLi_place (gSh_lines v), gLi_post (gSh_lines v), gLi_length (gSh_lines v))) h7.2.1 (plI_RB hP i _ _ b1) (by omega) hQ hB b2 a5) (fun r8 h8 => ?_)
      refine zlet_ex fun z9 h9 => ?_
      have pb := partedI_b q px ps (stI T E R n (i : Int) (runI q px ps (plI n T E R) s L i).1) (runI q px ps (plI n T E R) s L i).2.1 6
      have k9 := (rp.of 3600 a1 (by omega) (by omega)).add (rp.of 6 h8.1 (by omega) (by omega)) (by decide)
      rw [← h9] at k9
      obtain ⟨p2, e1, e2⟩ := h7.1
      exact go _ ⟨k9.1, ⟨p2, e1, by rw [show ((i + 1 : Nat) : Int) = (i : Int) + 1 by omega]; exact e2⟩, toInt_succ a2 (by omega), h8.2.1, h8.2.2.1.trans (h7.2.2.trans a4), h8.2.2.2⟩
    · rintro ⟨n1, nx, j, f, h, g⟩ ih ⟨a1, an, a2, a3, a4, a5⟩
      have a2 : j.toInt = (N : Int) := a2
      simp only [fB_Sh_passByPlan_9]
      rw [if_pos (ge_lit a2 hp (by omega))]
      exact ⟨_, rfl, a1, a3, a4, a5⟩
  exact bind_ex' loop (fun q4 h4 => ⟨_, rfl, h4⟩)
section
variable {m : tMo} {n : Nat} {T E R : Nat → Int} {q px ps s L : Nat → Int} {c : Int}
theorem m_second' {r : Option (Int32 × (Nat → Int64) × (Nat → Int32) × (Nat → Int32))} (e : f_Mo_second m = r) (hS : mS (gMo_ship m) s) (hl : mL (gMo_lines m) L) (hQ : mQ (gMo_ints m) (gMo_told m) (gMo_postX m) (gMo_postStrong m) q px ps) (hR : RB c s) (hc : c ≤ 1000000) (hB : QB q px ps) (hL : LB q L) :
    ∃ x, r = some x ∧ (x.1.toInt = partedI q px ps s L 6 ∧ mS x.2.1 (shipI q px ps s L) ∧ mL x.2.2.1 (restI q px ps s L)) := by
  rw [← e]; exact m_second hS hR hc hQ hB hL hl
theorem m_go (hQ : mQ (gMo_ints m) (gMo_told m) (gMo_postX m) (gMo_postStrong m) q px ps) (hB : QB q px ps) (hS : mS (gMo_ship m) s) (hR : RB c s) (hc : c ≤ 900000) (hL : LB q L) (hl : mL (gMo_lines m) L) {p : Int32} {N : Nat} (hp : p.toInt = (N : Int)) (h1 : 1 ≤ N) (h2 : N ≤ 600) :
    ∃ r, f_Mo_go m p = some r ∧ (r.1.toInt = (runI q px ps noI s L N).2.2 ∧ mS r.2.1 (runI q px ps noI s L N).1 ∧ mL r.2.2.1 (runI q px ps noI s L N).2.1) := by
  unfold f_Mo_go
  rw [m_in (rp.of 600 hp (by omega) (by omega)).long (rq.lit 1 1 (a := 1) rfl rfl) (rq.lit 600 600 (a := 600) rfl rfl), if_pos (show (1 : Int) ≤ N ∧ (N : Int) ≤ 600 by omega), if_neg (show ¬ (1 : Int32) = 0 by decide)]
  have loop : ∃ e, lp (fB_Mo_go_19 m p) LF (0, 0, gMo_ship m, gMo_lines m, gMo_parting m) = some e ∧ (e.1.toInt = (runI q px ps noI s L N).2.2 ∧ mS e.2.2.1 (runI q px ps noI s L N).1 ∧ mL e.2.2.2.1 (runI q px ps noI s L N).2.1) := by
    refine lp_inv (N := N) (I := fun i t => t.1.toInt = (runI q px ps noI s L i).2.2 ∧ t.2.1.toInt = (i : Int) ∧ mS t.2.2.1 (runI q px ps noI s L i).1 ∧ mL t.2.2.2.1 (runI q px ps noI s L i).2.1) (by omega) ?_ ?_ (i := 0) (by omega) ⟨rfl, rfl, hS, hl⟩
    · rintro i hi ⟨n, j, f, g, pt⟩ ih ⟨a1, a2, a3, a5⟩ go
      have a1 : n.toInt = (runI q px ps noI s L i).2.2 := a1
      have a2 : j.toInt = (i : Int) := a2
      obtain ⟨b1, b2, b3, b4⟩ := runI_b hB noI_RB hR hL i
      simp only [fB_Mo_go_19]
      rw [if_neg (lt_lit a2 hp hi)]
      refine bind_ex' (m_second' rfl a3 a5 hQ b1 (by omega) hB b2) (fun r9 h9 => ?_)
      refine zlet_ex fun z10 h10 => ?_
      have pb := partedI_b q px ps (runI q px ps noI s L i).1 (runI q px ps noI s L i).2.1 6
      have k10 := (rp.of 3600 a1 (by omega) (by omega)).add (rp.of 6 h9.1 (by omega) (by omega)) (by decide)
      rw [← h10] at k10
      exact go _ ⟨k10.1, toInt_succ a2 (by omega), h9.2.1, h9.2.2⟩
    · rintro ⟨n, j, f, g, pt⟩ ih ⟨a1, a2, a3, a5⟩
      have a2 : j.toInt = (N : Int) := a2
      simp only [fB_Mo_go_19]
      rw [if_pos (ge_lit a2 hp (by omega))]
      exact ⟨_, rfl, a1, a3, a5⟩
  exact bind_ex' loop (fun q4 h4 => ⟨_, rfl, h4⟩)
theorem m_steer' {r : Option (Nat → Int64)} {k : Int32} {kk : Int} (e : f_Mo_steer m k = r) (hS : mS (gMo_ship m) s) (hw : mP (gMo_ints m) (gMo_atRow m) n T E R) (hP : PB n T E R) (hk : k.toInt = kk) : ∃ x, r = some x ∧ mS x (stI T E R n kk s) := by
  rw [← e]; exact m_steer hP hw hS hk
theorem m_plan (hQ : mQ (gMo_ints m) (gMo_told m) (gMo_postX m) (gMo_postStrong m) q px ps) (hB : QB q px ps) (hP : PB n T E R) (hu : mP (gMo_ints m) (gMo_atRow m) n T E R) (hS : mS (gMo_ship m) s) (hR : RB c s) (hc : c ≤ 900000) (hL : LB q L) (hl : mL (gMo_lines m) L) {p : Int32} {N : Nat} (hp : p.toInt = (N : Int)) (h2 : N ≤ 600) :
    ∃ r, f_Mo_byPlan m p = some r ∧ (r.1.toInt = (runI q px ps (plI n T E R) s L N).2.2 ∧ mS r.2.1 (runI q px ps (plI n T E R) s L N).1 ∧ mL r.2.2.1 (runI q px ps (plI n T E R) s L N).2.1) := by
  unfold f_Mo_byPlan
  have loop : ∃ e, lp (fB_Mo_byPlan_4 m p) LF (0, 0, gMo_ship m, gMo_lines m, gMo_parting m) = some e ∧ (e.1.toInt = (runI q px ps (plI n T E R) s L N).2.2 ∧ mS e.2.2.1 (runI q px ps (plI n T E R) s L N).1 ∧ mL e.2.2.2.1 (runI q px ps (plI n T E R) s L N).2.1) := by
    refine lp_inv (N := N) (I := fun i t => t.1.toInt = (runI q px ps (plI n T E R) s L i).2.2 ∧ t.2.1.toInt = (i : Int) ∧ mS t.2.2.1 (runI q px ps (plI n T E R) s L i).1 ∧ mL t.2.2.2.1 (runI q px ps (plI n T E R) s L i).2.1) (by omega) ?_ ?_ (i := 0) (by omega) ⟨rfl, rfl, hS, hl⟩
    · rintro i hi ⟨n1, j, f, g, pt⟩ ih ⟨a1, a2, a3, a5⟩ go
      have a1 : n1.toInt = (runI q px ps (plI n T E R) s L i).2.2 := a1
      have a2 : j.toInt = (i : Int) := a2
      obtain ⟨b1, b2, b3, b4⟩ := runI_b hB (plI_RB hP) hR hL i
      simp only [fB_Mo_byPlan_4]
      rw [if_neg (lt_lit a2 hp hi)]
      refine bind_ex' (m_steer' rfl a3 hu hP a2) (fun r7 h7 => ?_)
      refine bind_ex' (m_second' rfl h7 a5 hQ (plI_RB hP i _ _ b1) (by omega) hB b2) (fun r9 h9 => ?_)
      refine zlet_ex fun z10 h10 => ?_
      have pb := partedI_b q px ps (stI T E R n (i : Int) (runI q px ps (plI n T E R) s L i).1) (runI q px ps (plI n T E R) s L i).2.1 6
      have k10 := (rp.of 3600 a1 (by omega) (by omega)).add (rp.of 6 h9.1 (by omega) (by omega)) (by decide)
      rw [← h10] at k10
      exact go _ ⟨k10.1, toInt_succ a2 (by omega), h9.2.1, h9.2.2⟩
    · rintro ⟨n1, j, f, g, pt⟩ ih ⟨a1, a2, a3, a5⟩
      have a2 : j.toInt = (N : Int) := a2
      simp only [fB_Mo_byPlan_4]
      rw [if_pos (ge_lit a2 hp (by omega))]
      exact ⟨_, rfl, a1, a3, a5⟩
  exact bind_ex' loop (fun q4 h4 => ⟨_, rfl, h4⟩)
end
/-! safe -/
def safeI (q s : Nat → Int) : Prop := (-100 < s 3 ∧ s 3 < 100) ∧ (-100 < s 4 ∧ s 4 < 100) ∧ (-100 < s 5 ∧ s 5 < 100) ∧ (-2000 < s 2 ∧ s 2 < 2000) ∧ (offI q s 100 < 300 ∧ q 0 ≤ s 0 + armI q 100 ∧ s 0 + armI q 100 ≤ q 1) ∧ (offI q s (-100) < 300 ∧ q 0 ≤ s 0 + armI q (-100) ∧ s 0 + armI q (-100) ≤ q 1)
theorem c_lies {v : tSh} {w : tQu} {q px ps s : Nat → Int} {c : Int} (hQ : cQ w q px ps) (hB : QB q px ps) (hS : cS (gSh_ints v) (gSh_harm v) s) (hR : RB c s) {p : Int32} {x : Int} (hp : rp p x 100) : f_Sh_liesWell v w (f_Qu_arm w p) = if offI q s x < 300 ∧ q 0 ≤ s 0 + armI q x ∧ s 0 + armI q x ≤ q 1 then 1 else 0 := by
  have ho := c_off hS hR.1 (by decide) hQ hB hp
  have ha := hQ.arm hB hp
  have r0 : rp (gSh_ints v 0) (s 0) 15000 := ⟨hS.1, by have := hR.1.1; omega, by have := hR.1.1; omega⟩
  have hs := r0.add ha (by decide)
  have w0 : rp (gQu_ints w 0) (q 0) 9999 := ⟨hQ.1 0 (by decide), by have := hB.1; omega, by have := hB.1; omega⟩
  have w1 : rp (gQu_ints w 1) (q 1) 9999 := ⟨hQ.1 1 (by decide), by have := hB.1; omega, by have := hB.1; omega⟩
  unfold f_Sh_liesWell
  generalize f_Sh_wayOff v (f_Qu_arm w p) = a at ho
  generalize gSh_ints v 0 + f_Qu_arm w p = b at hs
  by_cases d1 : (300 : Int32) ≤ a
  · have d1' := ((rp.lit 300 300 (a := 300) rfl rfl).le ho).mp d1
    rw [if_pos d1, if_neg (by omega)]
  · have d1' : ¬ _ := fun g => d1 (((rp.lit 300 300 (a := 300) rfl rfl).le ho).mpr g)
    rw [if_neg d1]
    by_cases d2 : b < gQu_ints w 0
    · have d2' := (hs.lt w0).mp d2
      rw [if_pos d2, if_neg (by omega)]
    · have d2' : ¬ _ := fun g => d2 ((hs.lt w0).mpr g)
      rw [if_neg d2]
      by_cases d3 : gQu_ints w 1 < b
      · have d3' := (w1.lt hs).mp d3
        rw [if_pos d3, if_neg (by omega)]
      · have d3' : ¬ _ := fun g => d3 ((w1.lt hs).mpr g)
        rw [if_neg d3, if_pos (by omega)]
theorem c_safe {v : tSh} {w : tQu} {q px ps s : Nat → Int} {c : Int} (hQ : cQ w q px ps) (hB : QB q px ps) (hS : cS (gSh_ints v) (gSh_harm v) s) (hR : RB c s) : (safeI q s ∧ f_Sh_isSafe v w = 1) ∨ (¬ safeI q s ∧ f_Sh_isSafe v w = 0) := by
  have l1 := c_lies hQ hB hS hR (rp.lit 100 100 (a := 100) rfl rfl)
  have l2 := c_lies hQ hB hS hR (rp.lit (-100) 100 (a := -100) rfl rfl)
  obtain ⟨-, -, c2, c3, c4, c5, -⟩ := hS
  obtain ⟨-, -, b2, b3, b4, b5, -⟩ := hR.1
  have r2 := (rp.of 45000 c2 (by omega) (by omega)).abs (by decide)
  have r3 := (rp.of 50000 c3 (by omega) (by omega)).abs (by decide)
  have r4 := (rp.of 50000 c4 (by omega) (by omega)).abs (by decide)
  have r5 := (rp.of 20000 c5 (by omega) (by omega)).abs (by decide)
  unfold f_Sh_isSafe safeI
  rw [l1, l2]
  generalize f_Qu_arm w (-100) = z
  generalize zabs (gSh_ints v 2) = a2 at r2
  generalize zabs (gSh_ints v 3) = a3 at r3
  generalize zabs (gSh_ints v 4) = a4 at r4
  generalize zabs (gSh_ints v 5) = a5 at r5
  have h100 := rp.lit 100 100 (a := (100 : Int32)) rfl rfl
  have h2000 := rp.lit 2000 2000 (a := (2000 : Int32)) rfl rfl
  by_cases d3 : (100 : Int32) ≤ a3
  · have d' := (h100.le r3).mp d3
    rw [if_pos d3]
    exact Or.inr ⟨fun g => by have := g.1; split at d' <;> omega, rfl⟩
  · have d3' : ¬ _ := fun g => d3 ((h100.le r3).mpr g)
    rw [if_neg d3]
    by_cases d4 : (100 : Int32) ≤ a4
    · have d' := (h100.le r4).mp d4
      rw [if_pos d4]
      exact Or.inr ⟨fun g => by have := g.2.1; split at d' <;> omega, rfl⟩
    · have d4' : ¬ _ := fun g => d4 ((h100.le r4).mpr g)
      rw [if_neg d4]
      by_cases d5 : (100 : Int32) ≤ a5
      · have d' := (h100.le r5).mp d5
        rw [if_pos d5]
        exact Or.inr ⟨fun g => by have := g.2.2.1; split at d' <;> omega, rfl⟩
      · have d5' : ¬ _ := fun g => d5 ((h100.le r5).mpr g)
        rw [if_neg d5]
        by_cases d2 : (2000 : Int32) ≤ a2
        · have d' := (h2000.le r2).mp d2
          rw [if_pos d2]
          exact Or.inr ⟨fun g => by have := g.2.2.2.1; split at d' <;> omega, rfl⟩
        · have d2' : ¬ _ := fun g => d2 ((h2000.le r2).mpr g)
          rw [if_neg d2]
          by_cases e1 : offI q s 100 < 300 ∧ q 0 ≤ s 0 + armI q 100 ∧ s 0 + armI q 100 ≤ q 1
          · rw [if_pos e1, if_neg (show ¬ (1 : Int32) = 0 by decide)]
            by_cases e2 : offI q s (-100) < 300 ∧ q 0 ≤ s 0 + armI q (-100) ∧ s 0 + armI q (-100) ≤ q 1
            · rw [if_pos e2, if_neg (show ¬ (1 : Int32) = 0 by decide)]
              refine Or.inl ⟨⟨?_, ?_, ?_, ?_, e1, e2⟩, rfl⟩
              · split at d3' <;> omega
              · split at d4' <;> omega
              · split at d5' <;> omega
              · split at d2' <;> omega
            · rw [if_neg e2, if_pos rfl]
              exact Or.inr ⟨fun g => e2 g.2.2.2.2.2, rfl⟩
          · rw [if_neg e1, if_pos rfl]
            exact Or.inr ⟨fun g => e1 g.2.2.2.2.1, rfl⟩
