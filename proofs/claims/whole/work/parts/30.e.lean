/-! THE PURE SIDE 5: move, knock, gap of the class; its second -/
theorem c_held {a : Int32} {x : Int} {A : Nat} (ha : rp a x A) {m n : Int32} (M : Nat) (hm : rp m (M : Int) M) (hn : rp n (-(M : Int)) M) : rp (f_AL_held a n m) (heldI x (M : Int)) M := by
  have e := hn.max (hm.min ha)
  have b := heldI_b x (m := (M : Int)) (by omega)
  refine ⟨?_, b.1, b.2⟩
  unfold f_AL_held
  rw [e.1]
  unfold heldI
  split <;> split <;> split <;> omega
theorem rq.of0 {a : Int64} {x y : Int} {B : Nat} (h : rq a x B) (e : y = x) : rq a y B := e ▸ h
theorem rp.of0 {a : Int32} {x y : Int} {B : Nat} (h : rp a x B) (e : y = x) : rp a y B := e ▸ h
section
variable {v : tSh} {w : tQu} {q px ps s L : Nat → Int} {X Y c ch ck : Int}
theorem c_move (hS : cS (gSh_ints v) (gSh_harm v) s) (hb : SB X Y c ch ck s) (hX : X ≤ 15000) (hY : Y ≤ 30000) (hc : c ≤ 1000001) (hch : ch ≤ 1001000000000000) (hck : ck ≤ 2000010) {g : Int × Int × Int} (h15 : rp (gSh_ints v 15) g.1 10000000) (h16 : rp (gSh_ints v 16) g.2.1 10000000) (h17 : rp (gSh_ints v 17) g.2.2 10000000) :
    cS (f_Sh_move v) (gSh_harm v) (moveI s g) ∧ f_Sh_move v 12 = gSh_ints v 12 := by
  obtain ⟨c0, c1, c2, c3, c4, c5, c6, c7, c8, c9, c10, c11, c12⟩ := hS
  obtain ⟨b0, b1, b2, b3, b4, b5, b6, b7, b8, b9, b10, b11, b12⟩ := hb
  have r0 : rp (gSh_ints v 0) (s 0) 15000 := ⟨c0, by omega, by omega⟩
  have r1 : rp (gSh_ints v 1) (s 1) 30000 := ⟨c1, by omega, by omega⟩
  have r2 : rp (gSh_ints v 2) (s 2) 45000 := ⟨c2, by omega, by omega⟩
  have r3 : rp (gSh_ints v 3) (s 3) 50000 := ⟨c3, by omega, by omega⟩
  have r4 : rp (gSh_ints v 4) (s 4) 50000 := ⟨c4, by omega, by omega⟩
  have r5 : rp (gSh_ints v 5) (s 5) 20000 := ⟨c5, by omega, by omega⟩
  have r9 : rp (gSh_ints v 9) (s 9) 1000001 := ⟨c9, by omega, by omega⟩
  have z1 := c_held (r3.add h15 (by decide)) (m := 50000) (n := -50000) 50000 (rp.lit _ _ rfl rfl) (rp.lit _ _ rfl rfl)
  have z2 := c_held (r4.add h16 (by decide)) (m := 50000) (n := -50000) 50000 (rp.lit _ _ rfl rfl) (rp.lit _ _ rfl rfl)
  have z3 := c_held (r5.add h17 (by decide)) (m := 20000) (n := -20000) 20000 (rp.lit _ _ rfl rfl) (rp.lit _ _ rfl rfl)
  have z4 := r0.add (z1.divk (b := 100) 100 100 rfl rfl (by decide) (by decide)) (by decide)
  have z5 := r1.sub (z2.divk (b := 100) 100 100 rfl rfl (by decide) (by decide)) (by decide)
  have z6 := z5.sub (((z1.divk (b := 100) 100 100 rfl rfl (by decide) (by decide)).mul r2 (by decide)).divk (b := 57296) 57296 57296 rfl rfl (by decide) (by decide)) (by decide)
  have z7 := c_held (r2.add z3 (by decide)) (m := 45000) (n := -45000) 45000 (rp.lit _ _ rfl rfl) (rp.lit _ _ rfl rfl)
  have z8 := r9.add (rp.lit 1 1 (a := 1) rfl rfl) (by decide)
  unfold f_Sh_move moveI
  simp only [zlet]
  refine ⟨⟨?_, ?_, ?_, ?_, ?_, ?_, ?_, ?_, ?_, ?_, ?_, ?_, ?_⟩, ?_⟩ <;> simp (disch := decide) only [upd_eq, upd_ne, us_eq, us_ne]
  · exact z4.1
  · exact z6.1
  · exact z7.1
  · exact z1.1
  · exact z2.1
  · exact z3.1
  · exact c6
  · exact c7
  · exact c8
  · exact z8.1
  · exact c10
  · exact c11
  · exact c12
theorem hitI_b {q px ps s : Nat → Int} {X Y c ch ck : Int} (hB : QB q px ps) (hb : SB X Y c ch ck s) {p : Int} (h1 : -100 ≤ p) (h2 : p ≤ 100) : -2463 ≤ hitI q s p ∧ hitI q s p ≤ 2463 := by
  obtain ⟨b0, b1, b2, b3, b4, b5, -⟩ := hb
  have a := hB.armb h1 h2
  have m1 := zmulb (x := s 3) (y := s 2) (A := 50000) (B := 45000) (by omega) (by omega) (by omega) (by omega)
  have d1 := zdivk (x := s 3 * s 2) (A := 50000 * 45000) (K := 57296) (k := 57296) rfl (by decide) m1.1 m1.2
  have m2 := zmulb (x := s 5) (y := armI q p) (A := 20000) (B := 4500) (by omega) (by omega) (by omega) (by omega)
  have d2 := zdivk (x := s 5 * armI q p) (A := 20000 * 4500) (K := 573) (k := 573) rfl (by decide) m2.1 m2.2
  have d3 := zdivk (x := s 4 + (s 3 * s 2).tdiv 57296 + (s 5 * armI q p).tdiv 573) (A := 246337) (K := 100) (k := 100) rfl (by decide) (by omega) (by omega)
  unfold hitI
  omega
theorem c_knock (hS : cS (gSh_ints v) (gSh_harm v) s) (hb : SB X Y c ch ck s) (hY : Y ≤ 40000) (hc : c ≤ 1000001) (hch : ch ≤ 1001000000000000) (hck : ck ≤ 2000010) (hQ : cQ w q px ps) (hB : QB q px ps) {p : Int32} {x : Int} (hp : rp p x 100) :
    cS (f_Sh_knock v w (f_Qu_arm w p)).1 (f_Sh_knock v w (f_Qu_arm w p)).2 (knockI q s x) ∧ (f_Sh_knock v w (f_Qu_arm w p)).1 12 = gSh_ints v 12 := by
  have ra := hQ.arm hB hp
  have rf := c_free hS hb hY ra
  have rz := rf.neg (by decide)
  have hS0 := hS
  have hit := hitI_b hB hb (p := x) hp.2.1 hp.2.2
  obtain ⟨c0, c1, c2, c3, c4, c5, c6, c7, c8, c9, c10, c11, c12⟩ := hS
  have hb0 := hb
  obtain ⟨b0, b1, b2, b3, b4, b5, b6, b7, b8, b9, b10, b11, b12⟩ := hb
  have r1 : rp (gSh_ints v 1) (s 1) 40000 := ⟨c1, by omega, by omega⟩
  have r2 : rp (gSh_ints v 2) (s 2) 45000 := ⟨c2, by omega, by omega⟩
  have r3 : rp (gSh_ints v 3) (s 3) 50000 := ⟨c3, by omega, by omega⟩
  have r4 : rp (gSh_ints v 4) (s 4) 50000 := ⟨c4, by omega, by omega⟩
  have r5 : rp (gSh_ints v 5) (s 5) 20000 := ⟨c5, by omega, by omega⟩
  have r10 : rq (gSh_harm v) (s 10) 1001000000000000 := ⟨c10, by omega, by omega⟩
  have r11 : rp (gSh_ints v 10) (s 11) 2000010 := ⟨c11, by omega, by omega⟩
  have w3 : rp (gQu_ints w 3) (q 3) 99 := ⟨hQ.1 3 (by decide), by have := hB.2.2.1; omega, by have := hB.2.2.1; omega⟩
  have w12 : rp (gQu_ints w 12) (q 12) 999 := ⟨hQ.1 12 (by decide), by have := hB.2.2.2.2.2.2.2.2.2.2.2.1; omega, by have := hB.2.2.2.2.2.2.2.2.2.2.2.1; omega⟩
  have z3 := (r3.long.mul r2.long (by decide)).divk (b := 57296) 57296 57296 rfl rfl (by decide) (by decide)
  have z4 := (((r4.long.add z3 (by decide)).add ((r5.mul ra (by decide)).divk (b := 573) 573 573 rfl rfl (by decide) (by decide)).long (by decide)).divk (b := 100) 100 100 rfl rfl (by decide) (by decide)).tight (x := hitI q s x) 2463 hit.1 hit.2
  have hh := r10.add (((z4.mul z4 (by decide)).mul w3.long (by decide)).divk (b := 10) 10 10 rfl rfl (by decide) (by decide)) (by decide)
  have hk := r11.add (rp.lit 1 1 (a := 1) rfl rfl) (by decide)
  have ht := (r5.divk (b := 3) 3 3 rfl rfl (by decide) (by decide)).neg (by decide)
  have hy := r1.add rz (by decide)
  have fe : freeI q s x = s 1 - (armI q x * s 2).tdiv 57296 := rfl
  rw [← fe] at rz hy
  unfold f_Sh_knock knockI
  simp only [zlet]
  generalize ((gSh_ints v 4).toInt64 + (gSh_ints v 3).toInt64 * (gSh_ints v 2).toInt64 / 57296 + (gSh_ints v 5 * f_Qu_arm w p / 573).toInt64) / 100 = z at z4 hh
  generalize hitI q s x = hx at z4 hh
  by_cases d : 0 < -(f_Sh_unheldOff v (f_Qu_arm w p))
  · have d' := ((rp.lit 0 0 (a := 0) rfl rfl).lt rz).mp d
    rw [if_pos d, if_pos (show freeI q s x < 0 by omega)]
    by_cases d2 : z ≤ (gQu_ints w 12).toInt64
    · have d2' := (z4.le w12.long).mp d2
      rw [if_pos d2]
      unfold knock1
      rw [if_neg (show ¬ q 12 < hx by omega)]
      by_cases d3 : z ≤ 0
      · have d3' := (z4.le (rq.lit 0 0 (a := 0) rfl rfl)).mp d3
        unfold knock2
        rw [if_pos d3, if_neg (show ¬ 0 < hx by omega)]
        refine ⟨⟨?_, ?_, ?_, ?_, ?_, ?_, ?_, ?_, ?_, ?_, ?_, ?_, ?_⟩, ?_⟩ <;> (try simp (disch := decide) only [upd_eq, upd_ne, us_eq, us_ne, f_Sh_addHarm, zlet])
        · exact c0
        · rw [hy.1]; omega
        · exact c2
        · exact c3
        · exact c4
        · exact c5
        · exact c6
        · exact c7
        · exact c8
        · exact c9
        · exact c10
        · exact c11
        · exact c12
      · have d3' : ¬ hx ≤ 0 := fun h => d3 ((z4.le (rq.lit 0 0 (a := 0) rfl rfl)).mpr h)
        unfold knock2
        rw [if_neg d3, if_pos (show 0 < hx by omega)]
        refine ⟨⟨?_, ?_, ?_, ?_, ?_, ?_, ?_, ?_, ?_, ?_, ?_, ?_, ?_⟩, ?_⟩ <;> (try simp (disch := decide) only [upd_eq, upd_ne, us_eq, us_ne, f_Sh_addHarm, zlet])
        · exact c0
        · rw [hy.1]; omega
        · exact c2
        · exact c3
        · rfl
        · exact ht.1
        · exact c6
        · exact c7
        · exact c8
        · exact c9
        · exact c10
        · exact c11
        · exact c12
    · have d2' : ¬ hx ≤ q 12 := fun h => d2 ((z4.le w12.long).mpr h)
      have q12 := hB.2.2.2.2.2.2.2.2.2.2.2.1
      rw [if_neg d2]
      unfold knock1
      rw [if_pos (show q 12 < hx by omega)]
      have d3 : ¬ z ≤ 0 := fun h => by
        have := (z4.le (rq.lit 0 0 (a := 0) rfl rfl)).mp h
        omega
      unfold knock2
      rw [if_neg d3, if_pos (show 0 < hx by omega)]
      refine ⟨⟨?_, ?_, ?_, ?_, ?_, ?_, ?_, ?_, ?_, ?_, ?_, ?_, ?_⟩, ?_⟩ <;> (try simp (disch := decide) only [upd_eq, upd_ne, us_eq, us_ne, f_Sh_addHarm, zlet])
      · exact c0
      · rw [hy.1]; omega
      · exact c2
      · exact c3
      · rfl
      · exact ht.1
      · exact c6
      · exact c7
      · exact c8
      · exact c9
      · exact hh.1
      · exact hk.1
      · exact c12
  · have d' : ¬ 0 < -freeI q s x := fun h => d (((rp.lit 0 0 (a := 0) rfl rfl).lt rz).mpr h)
    rw [if_neg d, if_neg (show ¬ freeI q s x < 0 by omega)]
    exact ⟨hS0, rfl⟩
def cSp (s : Nat → Int) (x : Int32) (r : (Nat → Int32) × Int64) : Prop := cS r.1 r.2 s ∧ r.1 12 = x
theorem zlet_P {α β : Type} (P : β → Prop) {a : α} {k : α → β} (h : ∀ x, x = a → P (k x)) : P (zlet a k) := h a rfl
/-- harm that comes -/
theorem c_harm {v : tSh} {w : tQu} {q px ps : Nat → Int} (hQ : cQ w q px ps) (hB : QB q px ps) {h x : Int} (hh : rq (gSh_harm v) h 1001000000000000) {p : Int64} (hp : rq p x 2463) : rq (f_Sh_addHarm v w p) (h + (x * x * q 3).tdiv 10) 1001000060057053 := by
  have w3 : rp (gQu_ints w 3) (q 3) 99 := ⟨hQ.1 3 (by decide), by have := hB.2.2.1; omega, by have := hB.2.2.1; omega⟩
  unfold f_Sh_addHarm
  refine zlet_P (fun z => rq z _ _) fun z1 h1 => ?_
  rw [h1]
  exact hh.add (((hp.mul hp (by decide)).mul w3.long (by decide)).divk (b := 10) 10 10 rfl rfl (by decide) (by decide)) (by decide)
theorem c_gapL {i : Nat → Int32} {h : Int64} (hS : cS i h s) {x0 y0 x10 : Int} {z : Int32} {t : Int64} (hz : z.toInt = x0) (ht : t.toInt = x10) : cS (upd (upd i 3 0) 0 z) t (us (us (us s 10 x10) 3 0) 0 x0) := by
  obtain ⟨c0, c1, c2, c3, c4, c5, c6, c7, c8, c9, c10, c11, c12⟩ := hS
  refine ⟨?_, ?_, ?_, ?_, ?_, ?_, ?_, ?_, ?_, ?_, ?_, ?_, ?_⟩ <;> (try simp (disch := decide) only [upd_eq, upd_ne, us_eq, us_ne])
  · exact hz
  · exact c1
  · exact c2
  · rfl
  · exact c4
  · exact c5
  · exact c6
  · exact c7
  · exact c8
  · exact c9
  · exact ht
  · exact c11
  · exact c12
theorem c_gap (hS : cS (gSh_ints v) (gSh_harm v) s) (hb : SB X Y c ch ck s) (hX : X ≤ 20000) (hch : ch ≤ 1000999000000000) (hQ : cQ w q px ps) (hB : QB q px ps) : cSp (meet2 q (meet1 q s)) (gSh_ints v 12) (f_Sh_stopAtGap v w) := by
  have ab := hQ.arm hB (rp.lit 100 100 (a := 100) rfl rfl)
  have as := hQ.arm hB (rp.lit (-100) 100 (a := -100) rfl rfl)
  have hS0 := hS
  obtain ⟨c0, c1, c2, c3, c4, c5, c6, c7, c8, c9, c10, c11, c12⟩ := hS
  obtain ⟨b0, b1, b2, b3, b4, b5, b6, b7, b8, b9, b10, b11, b12⟩ := hb
  have r0 : rp (gSh_ints v 0) (s 0) 20000 := ⟨c0, by omega, by omega⟩
  have r3 : rp (gSh_ints v 3) (s 3) 50000 := ⟨c3, by omega, by omega⟩
  have r10 : rq (gSh_harm v) (s 10) 1000999000000000 := ⟨c10, by omega, by omega⟩
  have w0 : rp (gQu_ints w 0) (q 0) 9999 := ⟨hQ.1 0 (by decide), by have := hB.1; omega, by have := hB.1; omega⟩
  have w1 : rp (gQu_ints w 1) (q 1) 9999 := ⟨hQ.1 1 (by decide), by have := hB.1; omega, by have := hB.1; omega⟩
  unfold f_Sh_stopAtGap
  refine zlet_P _ fun z1 h1 => ?_
  have zo : rp z1 (overI q s) 34499 := by rw [h1]; exact (r0.add ab (by decide)).sub w1 (by decide)
  refine zlet_P _ fun w2 h2 => ?_
  have k2 : cSp (meet1 q s) (gSh_ints v 12) w2 ∧ rp (w2.1 0) (meet1 q s 0) 20000 ∧ rp (w2.1 3) (meet1 q s 3) 50000 ∧ rq w2.2 (meet1 q s 10) 1001000000000000 := by
    rw [h2]
    unfold meet1
    have zx := r0.sub zo (by decide)
    by_cases d : z1 ≤ 0
    · have d' := (zo.le (rp.lit 0 0 (a := 0) rfl rfl)).mp d
      rw [if_pos d, if_neg (show ¬ 0 < overI q s by omega)]
      exact ⟨⟨hS0, rfl⟩, r0, r3, r10.wide _ (by decide)⟩
    · have d' : ¬ overI q s ≤ 0 := fun g => d ((zo.le (rp.lit 0 0 (a := 0) rfl rfl)).mpr g)
      rw [if_neg d, if_pos (show 0 < overI q s by omega)]
      have hx1 : -20000 ≤ s 0 - overI q s ∧ s 0 - overI q s ≤ 20000 := by
        have a := hB.armb (p := 100) (by decide) (by decide)
        have := hB.1
        unfold overI at d' ⊢; omega
      refine zlet_P (fun r => cSp _ _ r ∧ rp (r.1 0) _ _ ∧ rp (r.1 3) _ _ ∧ rq r.2 _ _) fun w5 h5 => ?_
      refine zlet_P (fun r => cSp _ _ r ∧ rp (r.1 0) _ _ ∧ rp (r.1 3) _ _ ∧ rq r.2 _ _) fun z9 h9 => ?_
      have pd := r3.divk (b := 100) 100 100 rfl rfl (by decide) (by decide)
      have k5 : rq w5 (s 10 + (if 0 < (s 3).tdiv 100 then ((s 3).tdiv 100 * (s 3).tdiv 100 * q 3).tdiv 10 else 0)) 1001000000000000 := by
        rw [h5]
        by_cases d2 : gSh_ints v 3 / 100 ≤ 0
        · have d2' := (pd.le (rp.lit 0 0 (a := 0) rfl rfl)).mp d2
          rw [if_pos d2, if_neg (show ¬ 0 < (s 3).tdiv 100 by omega)]
          exact (r10.wide _ (by decide)).of0 (by omega)
        · have d2' : ¬ (s 3).tdiv 100 ≤ 0 := fun g => d2 ((pd.le (rp.lit 0 0 (a := 0) rfl rfl)).mpr g)
          rw [if_neg d2, if_pos (show 0 < (s 3).tdiv 100 by omega)]
          refine zlet_P (fun z => rq z _ _) fun z8 h8 => ?_
          rw [h8]
          have e := c_harm hQ hB (r10.wide _ (by decide)) (pd.long.wide 2463 (by decide))
          have m := zmulb pd.2.1 pd.2.2 pd.2.1 pd.2.2
          have m2 := zmulb m.1 m.2 (y := q 3) (B := 99) (by have := hB.2.2.1; omega) (by have := hB.2.2.1; omega)
          have m3 := zdivk (K := 10) (k := 10) rfl (by decide) m2.1 m2.2
          exact e.tight _ (by omega) (by omega)
      have k9 : rp z9 (s 0 - overI q s) 20000 := by rw [h9]; exact zx.tight _ hx1.1 hx1.2
      refine ⟨⟨c_gapL hS0 (y0 := 0) k9.1 k5.1, ?_⟩, ?_, ?_, ?_⟩
      · simp (disch := decide) only [upd_eq, upd_ne]
      · simp (disch := decide) only [upd_eq, upd_ne, us_eq, us_ne]; exact k9
      · simp (disch := decide) only [upd_eq, upd_ne, us_eq, us_ne]; exact rp.lit 0 50000 rfl rfl
      · simp (disch := decide) only [upd_eq, upd_ne, us_eq, us_ne]; exact k5
  obtain ⟨⟨k2, k12⟩, k0, k3, k10⟩ := k2
  generalize meet1 q s = s1 at k2 k0 k3 k10
  refine zlet_P _ fun z10 h10 => ?_
  have zu : rp z10 (underI q s1) 34499 := by rw [h10]; exact w0.sub (k0.add as (by decide)) (by decide)
  have zy := k0.add zu (by decide)
  unfold meet2
  by_cases d : z10 ≤ 0
  · have d' := (zu.le (rp.lit 0 0 (a := 0) rfl rfl)).mp d
    rw [if_pos d, if_neg (show ¬ 0 < underI q s1 by omega)]
    exact ⟨k2, k12⟩
  · have d' : ¬ underI q s1 ≤ 0 := fun g => d ((zu.le (rp.lit 0 0 (a := 0) rfl rfl)).mpr g)
    rw [if_neg d, if_pos (show 0 < underI q s1 by omega)]
    refine zlet_P _ fun w12 h12 => ?_
    refine zlet_P _ fun z16 h16 => ?_
    have pe := k3.divk (b := 100) 100 100 rfl rfl (by decide) (by decide)
    have k5 : w12.toInt = s1 10 + (if (s1 3).tdiv 100 < 0 then ((s1 3).tdiv 100 * (s1 3).tdiv 100 * q 3).tdiv 10 else 0) := by
      rw [h12]
      by_cases d2 : 0 ≤ w2.1 3 / 100
      · have d2' := ((rp.lit 0 0 (a := 0) rfl rfl).le pe).mp d2
        rw [if_pos d2, if_neg (show ¬ (s1 3).tdiv 100 < 0 by omega), k10.1]; omega
      · have d2' : ¬ 0 ≤ (s1 3).tdiv 100 := fun g => d2 (((rp.lit 0 0 (a := 0) rfl rfl).le pe).mpr g)
        rw [if_neg d2, if_pos (show (s1 3).tdiv 100 < 0 by omega)]
        refine zlet_P (fun z : Int64 => z.toInt = _) fun z8 h8 => ?_
        rw [h8]
        exact (c_harm (v := (w2.1, w2.2, gSh_lines v)) hQ hB k10 (pe.long.wide 2463 (by decide))).1
    have k9 : z16.toInt = s1 0 + underI q s1 := by rw [h16]; exact zy.1
    exact ⟨c_gapL k2 (y0 := 0) k9 k5, (by simp (disch := decide) only [upd_eq, upd_ne]; exact k12)⟩
end
