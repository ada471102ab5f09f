/-! THE PURE SIDE 6: bounds through a second; the class's second -/
theorem bind_ex {α β : Type} {o : Option α} {k : α → Option β} {a : α} {Q : β → Prop} (h : o = some a) (h2 : ∃ r, k a = some r ∧ Q r) : ∃ r, Option.bind o k = some r ∧ Q r := by
  rw [h]; exact h2
theorem zlet_ex {α β : Type} {a : α} {k : α → Option β} {Q : β → Prop} (h : ∀ x, x = a → ∃ r, k x = some r ∧ Q r) : ∃ r, zlet a k = some r ∧ Q r := h a rfl
theorem SB.mono {X Y c ch ck X' Y' c' ch' ck' : Int} {s : Nat → Int} (h : SB X Y c ch ck s) (h1 : X ≤ X') (h2 : Y ≤ Y') (h3 : c ≤ c') (h4 : ch ≤ ch') (h5 : ck ≤ ck') : SB X' Y' c' ch' ck' s := by
  unfold SB at h ⊢; omega
theorem moveI_b {c ch ck : Int} {s : Nat → Int} (hb : SB 15000 30000 c ch ck s) (g : Int × Int × Int) : SB 15500 30893 (c + 1) ch ck (moveI s g) := by
  have p := heldI_b (s 3 + g.1) (m := 50000) (by decide)
  have d := heldI_b (s 4 + g.2.1) (m := 50000) (by decide)
  have t := heldI_b (s 5 + g.2.2) (m := 20000) (by decide)
  have a := heldI_b (s 2 + heldI (s 5 + g.2.2) 20000) (m := 45000) (by decide)
  unfold moveI
  generalize heldI (s 2 + heldI (s 5 + g.2.2) 20000) 45000 = A at *
  generalize heldI (s 3 + g.1) 50000 = P at *
  generalize heldI (s 4 + g.2.1) 50000 = D at *
  generalize heldI (s 5 + g.2.2) 20000 = T at *
  have p1 := zdivk (x := P) (A := 50000) (K := 100) (k := 100) rfl (by decide) p.1 p.2
  have d1 := zdivk (x := D) (A := 50000) (K := 100) (k := 100) rfl (by decide) d.1 d.2
  unfold SB at hb
  have m := zmulb (x := P.tdiv 100) (y := s 2) (A := 500) (B := 45000) p1.1 p1.2 (by omega) (by omega)
  have e := zdivk (x := P.tdiv 100 * s 2) (A := 500 * 45000) (K := 57296) (k := 57296) rfl (by decide) m.1 m.2
  unfold SB
  simp (disch := decide) only [us_eq, us_ne]
  omega
theorem knockI_b {q px ps : Nat → Int} (hB : QB q px ps) {X Y c ch ck : Int} {s : Nat → Int} (hb : SB X Y c ch ck s) (hY : 3534 ≤ Y) {p : Int} (h1 : -100 ≤ p) (h2 : p ≤ 100) : SB X Y c (ch + 60057053) (ck + 1) (knockI q s p) := by
  have hit := hitI_b hB hb h1 h2
  have tl := hB.tiltb h1 h2 (a := s 2) (by unfold SB at hb; omega) (by unfold SB at hb; omega)
  have m := zmulb (x := hitI q s p) (y := hitI q s p) (A := 2463) (B := 2463) hit.1 hit.2 hit.1 hit.2
  have n := zsq_nonneg (hitI q s p)
  have m2 := zmulb (y := q 3) (B := 99) m.1 m.2 (by have := hB.2.2.1; omega) (by have := hB.2.2.1; omega)
  have m3 := zdivk (K := 10) (k := 10) rfl (by decide) m2.1 m2.2
  have m4 : 0 ≤ (hitI q s p * hitI q s p * q 3).tdiv 10 := Int.tdiv_nonneg (Int.mul_nonneg n (by have := hB.2.2.1; omega)) (by decide)
  have t3 := zdivb (x := s 5) (y := 3) (A := 20000) (by unfold SB at hb; omega) (by unfold SB at hb; omega)
  unfold knockI
  have fe : s 1 - freeI q s p = (armI q p * s 2).tdiv 57296 := by unfold freeI; omega
  rw [fe]
  split
  · unfold knock2 knock1
    split <;> split <;> (unfold SB at hb ⊢; simp (disch := decide) only [us_eq, us_ne]; omega)
  · unfold SB at hb ⊢; omega
theorem paceSq_b {q px ps : Nat → Int} (hB : QB q px ps) {x : Int} (h1 : -50000 ≤ x) (h2 : x ≤ 50000) : 0 ≤ (x.tdiv 100 * x.tdiv 100 * q 3).tdiv 10 ∧ (x.tdiv 100 * x.tdiv 100 * q 3).tdiv 10 ≤ 2475000 := by
  have p1 := zdivk (x := x) (A := 50000) (K := 100) (k := 100) rfl (by decide) h1 h2
  have m := zmulb p1.1 p1.2 p1.1 p1.2
  have m2 := zmulb (y := q 3) (B := 99) m.1 m.2 (by have := hB.2.2.1; omega) (by have := hB.2.2.1; omega)
  have m3 := zdivk (K := 10) (k := 10) rfl (by decide) m2.1 m2.2
  have m4 : 0 ≤ (x.tdiv 100 * x.tdiv 100 * q 3).tdiv 10 := Int.tdiv_nonneg (Int.mul_nonneg (zsq_nonneg _) (by have := hB.2.2.1; omega)) (by decide)
  omega
theorem meet1_b {q px ps : Nat → Int} (hB : QB q px ps) {Y c ch ck : Int} {s : Nat → Int} (hb : SB 15500 Y c ch ck s) : SB 15500 Y c (ch + 2475000) ck (meet1 q s) := by
  have e := paceSq_b hB (x := s 3) (by unfold SB at hb; omega) (by unfold SB at hb; omega)
  have a := hB.armb (p := 100) (by decide) (by decide)
  have q1 := hB.1
  unfold meet1
  split
  · have f : s 0 - overI q s = q 1 - armI q 100 := by unfold overI; omega
    rw [f]
    split <;> (unfold SB at hb ⊢; simp (disch := decide) only [us_eq, us_ne]; omega)
  · unfold SB at hb ⊢; omega
/-- x, y as they are behind the gap -/
theorem meet2_b {q px ps : Nat → Int} (hB : QB q px ps) {Y c ch ck : Int} {s : Nat → Int} (hb : SB 15500 Y c ch ck s) (hx : s 0 ≤ 15000) : SB 15000 Y c (ch + 2475000) ck (meet2 q s) ∧ 0 ≤ meet2 q s 0 ∧ meet2 q s 1 = s 1 := by
  have e := paceSq_b hB (x := s 3) (by unfold SB at hb; omega) (by unfold SB at hb; omega)
  have a := hB.armb (p := -100) (by decide) (by decide)
  have a1 : armI q (-100) ≤ 0 := by
    have := armI_stern q
    have : 0 ≤ (q 2).tdiv 2 := Int.tdiv_nonneg (by have := hB.2.1; omega) (by decide)
    omega
  have q1 := hB.1
  unfold meet2
  have f : s 0 + underI q s = q 0 - armI q (-100) := by unfold underI; omega
  split
  · rw [f]
    refine ⟨?_, ?_, ?_⟩
    · split <;> (unfold SB at hb ⊢; simp (disch := decide) only [us_eq, us_ne]; omega)
    · simp (disch := decide) only [us_eq, us_ne]; omega
    · simp (disch := decide) only [us_eq, us_ne]
  · have g : s 0 = q 0 - underI q s - armI q (-100) := by unfold underI; omega
    unfold SB at hb ⊢; omega
theorem meet1_x {q px ps : Nat → Int} (hB : QB q px ps) (s : Nat → Int) : meet1 q s 0 ≤ 15000 := by
  have a := hB.armb (p := 100) (by decide) (by decide)
  have a1 : 0 ≤ armI q 100 := by
    have := armI_bow q
    have : 0 ≤ (q 2).tdiv 2 := Int.tdiv_nonneg (by have := hB.2.1; omega) (by decide)
    omega
  have q1 := hB.1
  unfold meet1
  have f : s 0 - overI q s = q 1 - armI q 100 := by unfold overI; omega
  split
  · rw [f]; simp (disch := decide) only [us_eq, us_ne]; omega
  · have g : s 0 = overI q s - armI q 100 + q 1 := by unfold overI; omega
    omega
theorem meet1_y (q s : Nat → Int) : meet1 q s 1 = s 1 := by
  unfold meet1
  split
  · simp (disch := decide) only [us_eq, us_ne]
  · rfl
theorem knockI_a (q s : Nat → Int) (p : Int) : knockI q s p 2 = s 2 := by
  unfold knockI
  split
  · unfold knock2 knock1
    split <;> split <;> simp (disch := decide) only [us_eq, us_ne]
  · rfl
theorem knockI_y (q s : Nat → Int) (p : Int) : (armI q p * s 2).tdiv 57296 ≤ knockI q s p 1 ∧ s 1 ≤ knockI q s p 1 := by
  unfold knockI
  have fe : freeI q s p = s 1 - (armI q p * s 2).tdiv 57296 := rfl
  split
  · rw [us_eq]; omega
  · omega
/-- behind both knocks nothing is in the quay -/
theorem knocks_y (q s : Nat → Int) : 0 ≤ knockI q (knockI q s 100) (-100) 1 := by
  have h1 := knockI_y q s 100
  have h2 := knockI_y q (knockI q s 100) (-100)
  rw [knockI_a, armI_stern, Int.neg_mul, Int.neg_tdiv] at h2
  rw [armI_bow] at h1
  omega
theorem capI_b {c ch ck : Int} {s : Nat → Int} (hb : SB 15000 40000 c ch ck s) (hx : 0 ≤ s 0) (hy : 0 ≤ s 1) : SB 15000 30000 c ch ck (capI s) ∧ 0 ≤ capI s 0 ∧ 0 ≤ capI s 1 := by
  unfold capI
  split
  · split <;> (unfold SB at hb ⊢; simp (disch := decide) only [us_eq, us_ne]; omega)
  · unfold SB at hb ⊢; omega
theorem shipI_b {q px ps s L : Nat → Int} {c : Int} (hB : QB q px ps) (hR : RB c s) : RB (c + 1) (shipI q px ps s L) := by
  have b1 := moveI_b hR.1 (gainI q px ps s L 6)
  unfold shipI
  generalize moveI s (gainI q px ps s L 6) = s1 at b1
  have b2 := knockI_b hB b1 (by decide) (p := 100) (by decide) (by decide)
  have b3 := knockI_b hB b2 (by decide) (p := -100) (by decide) (by decide)
  have y3 := knocks_y q s1
  generalize knockI q (knockI q s1 100) (-100) = s3 at b3 y3
  have b4 := meet1_b hB b3
  have x4 := meet1_x hB s3
  have y4 := meet1_y q s3
  generalize meet1 q s3 = s4 at b4 x4 y4
  have b5 := meet2_b hB b4 x4
  obtain ⟨b5, x5, y5⟩ := b5
  generalize meet2 q s4 = s5 at b5 x5 y5
  have b6 := capI_b (b5.mono (Int.le_refl _) (by decide) (Int.le_refl _) (Int.le_refl _) (Int.le_refl _)) x5 (by omega)
  exact ⟨b6.1.mono (by omega) (by omega) (by omega) (by omega) (by omega), b6.2⟩
theorem restI_LB {q px ps s L : Nat → Int} (hL : LB q L) : LB q (restI q px ps s L) := by
  intro l hl
  have e1 : restI q px ps s L (4 * l + 1) = L (4 * l + 1) := by unfold restI; rw [if_neg (by omega)]
  have e2 : restI q px ps s L (4 * l + 2) = L (4 * l + 2) := by unfold restI; rw [if_neg (by omega)]
  have e3 : restI q px ps s L (4 * l + 3) = L (4 * l + 3) := by unfold restI; rw [if_neg (by omega)]
  rw [e1, e2, e3]
  have e0 : restI q px ps s L (4 * l) = 0 ∨ restI q px ps s L (4 * l) = L (4 * l) := by
    unfold restI; split
    · exact Or.inl rfl
    · exact Or.inr rfl
  rcases e0 with h | h
  · exact Or.inl h
  · rw [h]; exact hL l hl
section
variable {v : tSh} {w : tQu} {q px ps s L : Nat → Int} {c : Int}
/-- A SECOND OF THE CLASS -/
theorem c_second (hS : cS (gSh_ints v) (gSh_harm v) s) (hR : RB c s) (hc : c ≤ 1000000) (hQ : cQ w q px ps) (hB : QB q px ps) (hL : LB q L) (hl : cL (gLi_fast (gSh_lines v)) (gLi_place (gSh_lines v)) (gLi_post (gSh_lines v)) (gLi_length (gSh_lines v)) L) :
    ∃ r, f_Sh_passSecond v w = some r ∧ (r.1.toInt = partedI q px ps s L 6 ∧ cS r.2.1 r.2.2.1 (shipI q px ps s L) ∧ r.2.1 12 = gSh_ints v 12 ∧ cL r.2.2.2 (gLi_place (gSh_lines v)) (gLi_post (gSh_lines v)) (gLi_length (gSh_lines v)) (restI q px ps s L)) := by
  have hb := hR.1
  unfold f_Sh_passSecond
  obtain ⟨r1, e1, k1, k15, k16, k17⟩ := c_gain0 hS hb hQ hB
  refine bind_ex e1 ?_
  obtain ⟨e, ee, n1, n2, n15, n16, n17, nf⟩ := c_lines hS hb (by decide) (by decide) hQ hB hL hl k1 k15 k16 k17
  refine bind_ex ee ?_
  have hl' : cL e.2.2.2 (gLi_place (gSh_lines v)) (gLi_post (gSh_lines v)) (gLi_length (gSh_lines v)) (restI q px ps s L) := by
    intro l hl6
    refine ⟨nf l hl6, fun h1 => ?_⟩
    have e1 : restI q px ps s L (4 * l + 1) = L (4 * l + 1) := by unfold restI; rw [if_neg (by omega)]
    have e2 : restI q px ps s L (4 * l + 2) = L (4 * l + 2) := by unfold restI; rw [if_neg (by omega)]
    have e3 : restI q px ps s L (4 * l + 3) = L (4 * l + 3) := by unfold restI; rw [if_neg (by omega)]
    rw [e1, e2, e3]
    refine (hl l hl6).2 ?_
    unfold restI at h1
    split at h1
    · cases h1
    · exact h1
  have gb := gainI_b hB hL hb 6 (by decide)
  have hS1 : cS e.2.2.1 (gSh_harm v) s := by
    obtain ⟨c0, c1, c2, c3, c4, c5, c6, c7, c8, c9, c10, c11, c12⟩ := hS
    refine ⟨?_, ?_, ?_, ?_, ?_, ?_, ?_, ?_, ?_, ?_, c10, ?_, ?_⟩ <;> rw [n2 _ (by decide)] <;> assumption
  refine zlet_ex fun r14 h14 => ?_
  have mv := c_move (v := (e.2.2.1, gSh_harm v, (e.2.2.2, gLi_place (gSh_lines v), gLi_post (gSh_lines v), gLi_length (gSh_lines v)))) hS1 hb (by decide) (by decide) (by omega) (by omega) (by omega) (g := gainI q px ps s L 6) ⟨n15, by omega, by omega⟩ ⟨n16, by omega, by omega⟩ ⟨n17, by omega, by omega⟩
  rw [← h14] at mv
  have m12 : r14 12 = gSh_ints v 12 := mv.2.trans (n2 12 (by decide))
  have mv := mv.1
  have b1 := moveI_b hb (gainI q px ps s L 6)
  unfold shipI
  generalize moveI s (gainI q px ps s L 6) = s1 at b1 mv
  refine zlet_ex fun r15 h15 => ?_
  have k1 := c_knock (v := (r14, gSh_harm v, (e.2.2.2, gLi_place (gSh_lines v), gLi_post (gSh_lines v), gLi_length (gSh_lines v)))) mv b1 (by decide) (by omega) (by omega) (by omega) hQ hB (rp.lit 100 100 (a := 100) rfl rfl)
  rw [← h15] at k1
  have b2 := knockI_b hB b1 (by decide) (p := 100) (by decide) (by decide)
  have yy := knocks_y q s1
  generalize knockI q s1 100 = s2 at k1 b2 yy
  refine zlet_ex fun r16 h16 => ?_
  have k2 := c_knock (v := (r15.1, r15.2, (e.2.2.2, gLi_place (gSh_lines v), gLi_post (gSh_lines v), gLi_length (gSh_lines v)))) k1.1 b2 (by decide) (by omega) (by omega) (by omega) hQ hB (rp.lit (-100) 100 (a := -100) rfl rfl)
  rw [← h16] at k2
  have b3 := knockI_b hB b2 (by decide) (p := -100) (by decide) (by decide)
  generalize knockI q s2 (-100) = s3 at k2 b3 yy
  refine zlet_ex fun r17 h17 => ?_
  have k3 := c_gap (v := (r16.1, r16.2, (e.2.2.2, gLi_place (gSh_lines v), gLi_post (gSh_lines v), gLi_length (gSh_lines v)))) k2.1 b3 (by decide) (by omega) hQ hB
  rw [← h17] at k3
  obtain ⟨k3, k12⟩ := k3
  have k12 : r17.1 12 = gSh_ints v 12 := k12.trans (k2.2.trans (k1.2.trans m12))
  have b4 := meet1_b hB b3
  have x4 := meet1_x hB s3
  have y4 := meet1_y q s3
  generalize meet1 q s3 = s4 at b4 x4 y4 k3
  obtain ⟨b5, x5, y5⟩ := meet2_b hB b4 x4
  generalize meet2 q s4 = s5 at b5 x5 y5 k3
  have rz1 : rp (r17.1 1) (s5 1) 40000 := ⟨k3.2.1, by have := b5.2.1; omega, by have := b5.2.1; omega⟩
  have rz4 : rp (r17.1 4) (s5 4) 50000 := ⟨k3.2.2.2.2.1, by have := b5.2.2.2.2.1; omega, by have := b5.2.2.2.2.1; omega⟩
  unfold capI
  by_cases d : r17.1 1 ≤ 30000
  · have d' := (rz1.le (rp.lit 30000 30000 (a := 30000) rfl rfl)).mp d
    rw [if_pos d, if_neg (show ¬ 30000 < s5 1 by omega)]
    exact ⟨_, rfl, n1, k3, k12, hl'⟩
  · have d' : ¬ s5 1 ≤ 30000 := fun g => d ((rz1.le (rp.lit 30000 30000 (a := 30000) rfl rfl)).mpr g)
    rw [if_neg d, if_pos (show 30000 < s5 1 by omega)]
    refine zlet_ex fun z19 h19 => ?_
    have hz : z19.toInt = (if s5 4 < 0 then 0 else s5 4) := by
      rw [h19, ((rp.lit 0 0 (a := 0) rfl rfl).max rz4).1]
      split <;> split <;> omega
    refine ⟨_, rfl, n1, ?_, ?_, hl'⟩
    · obtain ⟨c0, c1, c2, c3, c4, c5, c6, c7, c8, c9, c10, c11, c12⟩ := k3
      refine ⟨?_, ?_, ?_, ?_, ?_, ?_, ?_, ?_, ?_, ?_, ?_, ?_, ?_⟩ <;> (try simp (disch := decide) only [upd_eq, upd_ne, us_eq, us_ne])
      · exact c0
      · rfl
      · exact c2
      · exact c3
      · exact hz
      · exact c5
      · exact c6
      · exact c7
      · exact c8
      · exact c9
      · exact c10
      · exact c11
      · exact c12
    · simp (disch := decide) only [upd_eq, upd_ne]; exact k12
end
