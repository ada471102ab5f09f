/-! THE PURE SIDE 9: the gap of the reference; its second -/
section
variable {m : tMo} {q px ps s L : Nat → Int} {X Y c ch ck : Int}
theorem m_meet (hS : mS (gMo_ship m) s) (hb : SB X Y c ch ck s) (hX : X ≤ 20000) (hch : ch ≤ 1000999000000000) (hQ : mQ (gMo_ints m) (gMo_told m) (gMo_postX m) (gMo_postStrong m) q px ps) (hB : QB q px ps) : mS (f_Mo_meet m) (meet2 q (meet1 q s)) := by
  have ab := m_along hS hb hX hQ hB (rp.lit 100 100 (a := 100) rfl rfl)
  have hS0 := hS
  obtain ⟨c0, c1, c2, c3, c4, c5, c6, c7, c8, c9, c10, c11, c12⟩ := hS
  have hb0 := hb
  obtain ⟨b0, b1, b2, b3, b4, b5, b6, b7, b8, b9, b10, b11, b12⟩ := hb
  have r0 : rq (gMo_ship m 0) (s 0) 20000 := ⟨c0, by omega, by omega⟩
  have r3 : rq (gMo_ship m 3) (s 3) 50000 := ⟨c3, by omega, by omega⟩
  have r10 : rq (gMo_ship m 10) (s 10) 1000999000000000 := ⟨c10, by omega, by omega⟩
  have w0 := (rp.of (a := gMo_told m 0) 9999 (hQ.1 0 (by decide)) (by have := hB.1; omega) (by have := hB.1; omega)).long
  have w1 := (rp.of (a := gMo_told m 1) 9999 (hQ.1 1 (by decide)) (by have := hB.1; omega) (by have := hB.1; omega)).long
  have w3 := (rp.of (a := gMo_told m 3) 99 (hQ.1 3 (by decide)) (by have := hB.2.2.1; omega) (by have := hB.2.2.1; omega)).long
  unfold f_Mo_meet
  refine zlet_P (fun r => mS r _) fun z1 h1 => ?_
  have pd := r3.divk (b := 100) 100 100 rfl rfl (by decide) (by decide)
  rw [← h1] at pd
  refine zlet_P (fun r => mS r _) fun z2 h2 => ?_
  have zo : rq z2 (overI q s) 34499 := by rw [h2]; exact ab.sub w1 (by decide)
  refine zlet_P (fun r => mS r _) fun w2 hw2 => ?_
  have sq := paceSq_b hB (x := s 3) (by omega) (by omega)
  have k2 : mS w2 (meet1 q s) ∧ rq (w2 0) (meet1 q s 0) 20000 ∧ rq (w2 3) (meet1 q s 3) 50000 ∧ rq (w2 10) (meet1 q s 10) 1001000000000000 := by
    rw [hw2]
    unfold meet1
    have zx := r0.sub zo (by decide)
    by_cases d : z2 ≤ 0
    · have d' := (zo.le (rq.lit 0 0 (a := 0) rfl rfl)).mp d
      rw [if_pos d, if_neg (show ¬ 0 < overI q s by omega)]
      exact ⟨hS0, r0, r3, r10.wide _ (by decide)⟩
    · have d' : ¬ overI q s ≤ 0 := fun g => d ((zo.le (rq.lit 0 0 (a := 0) rfl rfl)).mpr g)
      rw [if_neg d, if_pos (show 0 < overI q s by omega)]
      have hx1 : -20000 ≤ s 0 - overI q s ∧ s 0 - overI q s ≤ 20000 := by
        have a := hB.armb (p := 100) (by decide) (by decide)
        have := hB.1
        unfold overI at d' ⊢; omega
      refine zlet_P (fun r => mS r _ ∧ rq (r 0) _ _ ∧ rq (r 3) _ _ ∧ rq (r 10) _ _) fun w6 h6 => ?_
      refine zlet_P (fun r => mS r _ ∧ rq (r 0) _ _ ∧ rq (r 3) _ _ ∧ rq (r 10) _ _) fun z9 h9 => ?_
      refine zlet_P (fun r => mS r _ ∧ rq (r 0) _ _ ∧ rq (r 3) _ _ ∧ rq (r 10) _ _) fun z10 h10 => ?_
      have k6 : rq w6 (if 0 < (s 3).tdiv 100 then ((s 3).tdiv 100 * (s 3).tdiv 100 * q 3).tdiv 10 else 0) 2475000 := by
        rw [h6]
        by_cases d2 : z1 ≤ 0
        · have d2' := (pd.le (rq.lit 0 0 (a := 0) rfl rfl)).mp d2
          rw [if_pos d2, if_neg (show ¬ 0 < (s 3).tdiv 100 by omega)]
          exact rq.lit 0 _ rfl rfl
        · have d2' : ¬ (s 3).tdiv 100 ≤ 0 := fun g => d2 ((pd.le (rq.lit 0 0 (a := 0) rfl rfl)).mpr g)
          rw [if_neg d2, if_pos (show 0 < (s 3).tdiv 100 by omega)]
          exact ((pd.mul pd (by decide)).mul w3 (by decide)).divk (b := 10) 10 10 rfl rfl (by decide) (by decide)
      have k9 : rq z9 (s 10 + (if 0 < (s 3).tdiv 100 then ((s 3).tdiv 100 * (s 3).tdiv 100 * q 3).tdiv 10 else 0)) 1001000000000000 := by
        rw [h9]; exact (r10.add k6 (by decide)).wide _ (by decide)
      have k10 : rq z10 (s 0 - overI q s) 20000 := by rw [h10]; exact zx.tight _ hx1.1 hx1.2
      refine ⟨m_gapL hS0 k10.1 k9.1, ?_, ?_, ?_⟩
      · simp (disch := decide) only [updL_eq, updL_ne, us_eq, us_ne]; exact k10
      · simp (disch := decide) only [updL_eq, updL_ne, us_eq, us_ne]; exact rq.lit 0 50000 rfl rfl
      · simp (disch := decide) only [updL_eq, updL_ne, us_eq, us_ne]; exact k9
  obtain ⟨k2, k0, k3, k10⟩ := k2
  have s3b : -50000 ≤ meet1 q s 3 ∧ meet1 q s 3 ≤ 50000 := ⟨k3.2.1, k3.2.2⟩
  generalize meet1 q s = s1 at k2 k0 k3 k10 s3b
  have sq1 := paceSq_b hB (x := s1 3) (by omega) (by omega)
  refine zlet_P (fun r => mS r _) fun z11 h11 => ?_
  have pe := k3.divk (b := 100) 100 100 rfl rfl (by decide) (by decide)
  rw [← h11] at pe
  refine zlet_P (fun r => mS r _) fun z12 h12 => ?_
  have as := m_arm hQ hB (rp.lit (-100) 100 (a := -100) rfl rfl)
  have zu : rq z12 (underI q s1) 34499 := by
    rw [h12]
    exact w0.sub (k0.add as (by decide)) (by decide)
  have zy := k0.add zu (by decide)
  unfold meet2
  by_cases d : z12 ≤ 0
  · have d' := (zu.le (rq.lit 0 0 (a := 0) rfl rfl)).mp d
    rw [if_pos d, if_neg (show ¬ 0 < underI q s1 by omega)]
    exact k2
  · have d' : ¬ underI q s1 ≤ 0 := fun g => d ((zu.le (rq.lit 0 0 (a := 0) rfl rfl)).mpr g)
    rw [if_neg d, if_pos (show 0 < underI q s1 by omega)]
    refine zlet_P (fun r => mS r _) fun w14 h14 => ?_
    refine zlet_P (fun r => mS r _) fun z17 h17 => ?_
    refine zlet_P (fun r => mS r _) fun z18 h18 => ?_
    have k14 : rq w14 (if (s1 3).tdiv 100 < 0 then ((s1 3).tdiv 100 * (s1 3).tdiv 100 * q 3).tdiv 10 else 0) 2475000 := by
      rw [h14]
      by_cases d2 : 0 ≤ z11
      · have d2' := ((rq.lit 0 0 (a := 0) rfl rfl).le pe).mp d2
        rw [if_pos d2, if_neg (show ¬ (s1 3).tdiv 100 < 0 by omega)]; exact rq.lit 0 _ rfl rfl
      · have d2' : ¬ 0 ≤ (s1 3).tdiv 100 := fun g => d2 (((rq.lit 0 0 (a := 0) rfl rfl).le pe).mpr g)
        rw [if_neg d2, if_pos (show (s1 3).tdiv 100 < 0 by omega)]
        exact ((pe.mul pe (by decide)).mul w3 (by decide)).divk (b := 10) 10 10 rfl rfl (by decide) (by decide)
    have k17 := k10.add k14 (by decide)
    rw [← h17] at k17
    rw [← h18] at zy
    exact m_gapL k2 zy.1 k17.1
theorem m_knock' {r : Nat → Int64} {p : Int32} (e : r = f_Mo_knock m p) (hS : mS (gMo_ship m) s) (hQ : mQ (gMo_ints m) (gMo_told m) (gMo_postX m) (gMo_postStrong m) q px ps) (hb : SB X Y c ch ck s) (hY : Y ≤ 40000) (hc : c ≤ 1000001) (hch : ch ≤ 1001000000000000) (hck : ck ≤ 2000010) (hB : QB q px ps) {x : Int} (hp : rp p x 100) : mS r (knockI q s x) := by
  rw [e]; exact m_knock hS hb hY hc hch hck hQ hB hp
theorem m_meet' {r : Nat → Int64} (e : r = f_Mo_meet m) (hS : mS (gMo_ship m) s) (hQ : mQ (gMo_ints m) (gMo_told m) (gMo_postX m) (gMo_postStrong m) q px ps) (hb : SB X Y c ch ck s) (hX : X ≤ 20000) (hch : ch ≤ 1000999000000000) (hB : QB q px ps) : mS r (meet2 q (meet1 q s)) := by
  rw [e]; exact m_meet hS hb hX hch hQ hB
/-- A SECOND OF THE REFERENCE -/
theorem m_second (hS : mS (gMo_ship m) s) (hR : RB c s) (hc : c ≤ 1000000) (hQ : mQ (gMo_ints m) (gMo_told m) (gMo_postX m) (gMo_postStrong m) q px ps) (hB : QB q px ps) (hL : LB q L) (hl : mL (gMo_lines m) L) :
    ∃ r, f_Mo_second m = some r ∧ (r.1.toInt = partedI q px ps s L 6 ∧ mS r.2.1 (shipI q px ps s L) ∧ mL r.2.2.1 (restI q px ps s L)) := by
  have hb := hR.1
  unfold f_Mo_second
  refine bind_ex' (m_part hS hb (by decide) (by decide) hQ hB hL hl) (fun r1 h1 => ?_)
  refine bind_ex' (m_push hS hb (by decide) (by decide) hQ hB hL h1.2) (fun r2 h2 => ?_)
  have gb := gainI_b hB hL hb 6 (by decide)
  have b1 := moveI_b hb (gainI q px ps s L 6)
  have p := heldI_b (s 3 + (gainI q px ps s L 6).1) (m := 50000) (by decide)
  have dd := heldI_b (s 4 + (gainI q px ps s L 6).2.1) (m := 50000) (by decide)
  have t := heldI_b (s 5 + (gainI q px ps s L 6).2.2) (m := 20000) (by decide)
  unfold shipI
  unfold moveI at b1 ⊢
  generalize heldI (s 3 + (gainI q px ps s L 6).1) 50000 = P at *
  generalize heldI (s 4 + (gainI q px ps s L 6).2.1) 50000 = D at *
  generalize heldI (s 5 + (gainI q px ps s L 6).2.2) 20000 = T at *
  obtain ⟨c0, c1, c2, c3, c4, c5, c6, c7, c8, c9, c10, c11, c12⟩ := h2
  simp (disch := decide) only [us_eq, us_ne] at c0 c1 c2 c3 c4 c5 c6 c7 c8 c9 c10 c11 c12
  have hbb := hb
  obtain ⟨d0, d1, d2, d3, d4, d5, d6, d7, d8, d9, d10, d11, d12⟩ := hbb
  have r0 : rq (r2 0) (s 0) 15000 := ⟨c0, by omega, by omega⟩
  have q1 : rq (r2 1) (s 1) 30000 := ⟨c1, by omega, by omega⟩
  have q2 : rq (r2 2) (s 2) 45000 := ⟨c2, by omega, by omega⟩
  have q3 : rq (r2 3) P 50000 := ⟨c3, by omega, by omega⟩
  have q4 : rq (r2 4) D 50000 := ⟨c4, by omega, by omega⟩
  have q5 : rq (r2 5) T 20000 := ⟨c5, by omega, by omega⟩
  have q9 : rq (r2 9) (s 9) 1000000 := ⟨c9, by omega, by omega⟩
  refine zlet_ex fun z3 h3 => ?_
  refine zlet_ex fun z4 h4 => ?_
  refine zlet_ex fun z5 h5 => ?_
  refine zlet_ex fun z6 h6 => ?_
  have k3 := r0.add (q3.divk (b := 100) 100 100 rfl rfl (by decide) (by decide)) (by decide)
  have k4 := q1.sub ((q4.divk (b := 100) 100 100 rfl rfl (by decide) (by decide)).add (((q3.divk (b := 100) 100 100 rfl rfl (by decide) (by decide)).mul q2 (by decide)).divk (b := 57296) 57296 57296 rfl rfl (by decide) (by decide)) (by decide)) (by decide)
  have k5 := m_held (q2.add q5 (by decide)) (m := 45000) 45000 (rq.lit _ _ rfl rfl) (by decide)
  have k6 := q9.add (rq.lit 1 1 (a := 1) rfl rfl) (by decide)
  rw [← h3] at k3
  rw [← h4] at k4
  rw [← h5] at k5
  rw [← h6] at k6
  have mv : mS (vp_updL (vp_updL (vp_updL (vp_updL r2 0 z3) 1 z4) 2 z5) 9 z6) (us (us (us (us (us (us (us s 3 P) 4 D) 5 T) 0 (s 0 + P.tdiv 100)) 1 (s 1 - D.tdiv 100 - (P.tdiv 100 * s 2).tdiv 57296)) 2 (heldI (s 2 + T) 45000)) 9 (s 9 + 1)) := by
    refine ⟨?_, ?_, ?_, ?_, ?_, ?_, ?_, ?_, ?_, ?_, ?_, ?_, ?_⟩ <;> (try simp (disch := decide) only [updL_eq, updL_ne, us_eq, us_ne])
    · exact k3.1
    · rw [k4.1]; omega
    · exact k5.1
    · exact c3
    · exact c4
    · exact c5
    · exact c6
    · exact c7
    · exact c8
    · exact k6.1
    · exact c10
    · exact c11
    · exact c12
  generalize (us (us (us (us (us (us (us s 3 P) 4 D) 5 T) 0 (s 0 + P.tdiv 100)) 1 (s 1 - D.tdiv 100 - (P.tdiv 100 * s 2).tdiv 57296)) 2 (heldI (s 2 + T) 45000)) 9 (s 9 + 1)) = s1 at b1 mv
  refine zlet_ex fun r7 h7 => ?_
  have k7 := m_knock' h7 mv hQ b1 (by decide) (by omega) (by omega) (by omega) hB (rp.lit 100 100 (a := 100) rfl rfl)
  have b2 := knockI_b hB b1 (by decide) (p := 100) (by decide) (by decide)
  generalize knockI q s1 100 = s2 at k7 b2
  refine zlet_ex fun r8 h8 => ?_
  have k8 := m_knock' h8 k7 hQ b2 (by decide) (by omega) (by omega) (by omega) hB (rp.lit (-100) 100 (a := -100) rfl rfl)
  have b3 := knockI_b hB b2 (by decide) (p := -100) (by decide) (by decide)
  generalize knockI q s2 (-100) = s3 at k8 b3
  refine zlet_ex fun r9 h9 => ?_
  have k9 := m_meet' h9 k8 hQ b3 (by decide) (by omega) hB
  have b4 := meet1_b hB b3
  have x4 := meet1_x hB s3
  generalize meet1 q s3 = s4 at b4 x4 k9
  obtain ⟨b5, x5, y5⟩ := meet2_b hB b4 x4
  generalize meet2 q s4 = s5 at b5 x5 y5 k9
  have rz1 : rq (r9 1) (s5 1) 40000 := ⟨k9.2.1, by have := b5.2.1; omega, by have := b5.2.1; omega⟩
  have rz4 : rq (r9 4) (s5 4) 50000 := ⟨k9.2.2.2.2.1, by have := b5.2.2.2.2.1; omega, by have := b5.2.2.2.2.1; omega⟩
  unfold capI
  by_cases d : r9 1 ≤ 30000
  · have d' := (rz1.le (rq.lit 30000 30000 (a := 30000) rfl rfl)).mp d
    rw [if_pos d, if_neg (show ¬ 30000 < s5 1 by omega)]
    exact ⟨_, rfl, h1.1, k9, h1.2⟩
  · have d' : ¬ s5 1 ≤ 30000 := fun g => d ((rz1.le (rq.lit 30000 30000 (a := 30000) rfl rfl)).mpr g)
    rw [if_neg d, if_pos (show 30000 < s5 1 by omega)]
    refine zlet_ex fun w11 h11 => ?_
    have hz : w11.toInt = (if s5 4 < 0 then 0 else s5 4) := by
      rw [h11]
      by_cases e : 0 ≤ r9 4
      · have e' := ((rq.lit 0 0 (a := 0) rfl rfl).le rz4).mp e
        rw [if_pos e, if_neg (by omega)]; exact rz4.1
      · have e' : ¬ _ := fun g => e (((rq.lit 0 0 (a := 0) rfl rfl).le rz4).mpr g)
        rw [if_neg e, if_pos (by omega)]; rfl
    refine ⟨_, rfl, h1.1, ?_, h1.2⟩
    obtain ⟨c0, c1, c2, c3, c4, c5, c6, c7, c8, c9, c10, c11, c12⟩ := k9
    refine ⟨?_, ?_, ?_, ?_, ?_, ?_, ?_, ?_, ?_, ?_, ?_, ?_, ?_⟩ <;> (try simp (disch := decide) only [updL_eq, updL_ne, us_eq, us_ne])
    · exact c0
    · rfl
    · exact c2
    · exact c3
    · exact hz
    · exact c5
    · exact c6
    · exact c7
    · exact c8
    · exact c9
    · exact c10
    · exact c11
    · exact c12
end
