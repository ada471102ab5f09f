/-! THE PURE SIDE 3: a second of the class -/
theorem zfrac {a w f : Int} {A : Nat} (h1 : -(A : Int) ≤ a) (h2 : a ≤ A) (h3 : -f ≤ w) (h4 : w ≤ f) (hf : 0 < f) : -(A : Int) ≤ (a * w).tdiv f ∧ (a * w).tdiv f ≤ A := by
  have e : ((a * w).tdiv f).natAbs = (a * w).natAbs / f.natAbs := Int.natAbs_tdiv (a * w) f
  have m := Int.natAbs_mul a w
  have k : (a * w).natAbs ≤ A * f.natAbs := by rw [m]; exact Nat.mul_le_mul (by omega) (by omega)
  have d : (a * w).natAbs / f.natAbs ≤ A := by
    have d1 : (a * w).natAbs / f.natAbs ≤ (A * f.natAbs) / f.natAbs := Nat.div_le_div_right k
    rw [Nat.mul_div_cancel _ (by omega)] at d1
    exact d1
  omega
theorem farI_pos (q px s L : Nat → Int) (l : Nat) : 0 < farI q px s L l := by
  unfold farI; split <;> omega
theorem farI_ge (q px s L : Nat → Int) (l : Nat) : distI q px s (L (4 * l + 1)) (L (4 * l + 2)) ≤ farI q px s L l := by
  unfold farI; split <;> omega
theorem goneI_01 (q px ps s L : Nat → Int) (l : Nat) : goneI q px ps s L l = 0 ∨ goneI q px ps s L l = 1 := by
  unfold goneI; split
  · split
    · exact Or.inr rfl
    · exact Or.inl rfl
  · exact Or.inl rfl
/-- a line that holds pulls no more than 999 -/
theorem lpullI_b {q px ps s L : Nat → Int} {l : Nat} (hB : QB q px ps) (hL : LB q L) (hl : l < 6) (hf : L (4 * l) = 1) (hg : goneI q px ps s L l = 0) : 0 ≤ lpullI q px s L l ∧ lpullI q px s L l ≤ 999 := by
  refine ⟨pullI_nonneg _ _ _, ?_⟩
  unfold goneI at hg
  rw [if_pos hf] at hg
  split at hg
  · cases hg
  · rcases hL l hl with h | ⟨_, _, h3, _⟩
    · omega
    · have := (hB.2.2.2.2.2.2.2.2.2.2.2.2.2 (L (4 * l + 2)).toNat (by omega)).2
      omega
theorem inI_b {q px ps s L : Nat → Int} {l : Nat} (hB : QB q px ps) (hL : LB q L) (hl : l < 6) (hf : L (4 * l) = 1) (hg : goneI q px ps s L l = 0) : -999 ≤ inI q px s L l ∧ inI q px s L l ≤ 999 := by
  have h := lpullI_b hB hL hl hf hg
  have d := distI_off q px s (L (4 * l + 1)) (L (4 * l + 2))
  have e := farI_ge q px s L l
  have f := offI_b (q := q) (s := s) (p := L (4 * l + 1))
  exact zfrac (A := 999) (by omega) (by omega) (by omega) (by omega) (farI_pos q px s L l)
theorem outI_b {q px ps s L : Nat → Int} {l : Nat} (hB : QB q px ps) (hL : LB q L) (hl : l < 6) (hf : L (4 * l) = 1) (hg : goneI q px ps s L l = 0) : -999 ≤ (lpullI q px s L l * wayI q px s (L (4 * l + 1)) (L (4 * l + 2))).tdiv (farI q px s L l) ∧ (lpullI q px s L l * wayI q px s (L (4 * l + 1)) (L (4 * l + 2))).tdiv (farI q px s L l) ≤ 999 := by
  have h := lpullI_b hB hL hl hf hg
  have d := distI_way q px s (L (4 * l + 1)) (L (4 * l + 2))
  have e := farI_ge q px s L l
  exact zfrac (A := 999) (by omega) (by omega) (by omega) (by omega) (farI_pos q px s L l)
theorem gain0_b {q px ps s : Nat → Int} {X Y c ch ck : Int} (hB : QB q px ps) (hS : SB X Y c ch ck s) : (-30000 ≤ (gain0 q s).1 ∧ (gain0 q s).1 ≤ 30000) ∧ (-30000 ≤ (gain0 q s).2.1 ∧ (gain0 q s).2.1 ≤ 30000) ∧ (-160000 ≤ (gain0 q s).2.2 ∧ (gain0 q s).2.2 ≤ 160000) := by
  obtain ⟨-, b2, b3, b4, b5, b6, b7, b8, b9, b10, b11, b12, -, -⟩ := hB
  obtain ⟨-, -, s2, s3, s4, s5, s6, s7, s8, -⟩ := hS
  have m1 := zmulb (x := s 6) (y := q 4) (A := 3) (B := 50) (by omega) (by omega) (by omega) (by omega)
  have m2 := zmulb (x := s 3) (y := q 7) (A := 50000) (B := 50) (by omega) (by omega) (by omega) (by omega)
  have d2 := zdivk (x := s 3 * q 7) (A := 50000 * 50) (K := 100) (k := 100) rfl (by decide) m2.1 m2.2
  have d3 := zdivb (x := s 8 * 10) (y := q 3) (A := 990) (by omega) (by omega)
  have m4 := zmulb (x := s 4) (y := q 8) (A := 50000) (B := 50) (by omega) (by omega) (by omega) (by omega)
  have d4 := zdivk (x := s 4 * q 8) (A := 50000 * 50) (K := 100) (k := 100) rfl (by decide) m4.1 m4.2
  have m5 := zmulb (x := s 7) (y := s 3) (A := 3) (B := 50000) (by omega) (by omega) (by omega) (by omega)
  have d5 := zdivk (x := s 7 * s 3) (A := 3 * 50000) (K := 100) (k := 100) rfl (by decide) m5.1 m5.2
  have m6 := zmulb (x := (s 7 * s 3).tdiv 100) (y := q 6) (A := 1500) (B := 99) (by omega) (by omega) (by omega) (by omega)
  have d6 := zdivb (y := q 3) m6.1 m6.2
  have m7 := zmulb (x := s 5) (y := q 9) (A := 20000) (B := 50) (by omega) (by omega) (by omega) (by omega)
  have d7 := zdivk (x := s 5 * q 9) (A := 20000 * 50) (K := 100) (k := 100) rfl (by decide) m7.1 m7.2
  have m8 := zmulb (x := s 6) (y := q 5) (A := 3) (B := 99) (by omega) (by omega) (by omega) (by omega)
  have d8 := zdivb (y := q 3) m8.1 m8.2
  unfold gain0
  refine ⟨⟨?_, ?_⟩, ⟨?_, ?_⟩, ?_, ?_⟩ <;> simp only
  · omega
  · omega
  · omega
  · omega
  · split <;> omega
  · split <;> omega
theorem gainI_b {q px ps s L : Nat → Int} {X Y c ch ck : Int} (hB : QB q px ps) (hL : LB q L) (hS : SB X Y c ch ck s) (l : Nat) (hl : l ≤ 6) : (-(30000 + 10000 * (l : Int)) ≤ (gainI q px ps s L l).1 ∧ (gainI q px ps s L l).1 ≤ 30000 + 10000 * (l : Int)) ∧ (-(30000 + 10000 * (l : Int)) ≤ (gainI q px ps s L l).2.1 ∧ (gainI q px ps s L l).2.1 ≤ 30000 + 10000 * (l : Int)) ∧ (-(160000 + 450000 * (l : Int)) ≤ (gainI q px ps s L l).2.2 ∧ (gainI q px ps s L l).2.2 ≤ 160000 + 450000 * (l : Int)) := by
  induction l with
  | zero =>
    have := gain0_b hB hS
    unfold gainI
    omega
  | succ l ih =>
    have ih := ih (by omega)
    unfold gainI
    by_cases g : L (4 * l) = 1 ∧ goneI q px ps s L l = 0
    · rw [if_pos g]
      have i1 := inI_b hB hL (by omega) g.1 g.2
      have o1 := outI_b hB hL (by omega) g.1 g.2
      have a1 := hB.armb (p := L (4 * l + 1)) (by rcases hL l (by omega) with h | h <;> omega) (by rcases hL l (by omega) with h | h <;> omega)
      have d1 := zdivb (x := (lpullI q px s L l * wayI q px s (L (4 * l + 1)) (L (4 * l + 2))).tdiv (farI q px s L l) * 10) (y := q 3) (A := 9990) (by omega) (by omega)
      have d2 := zdivb (x := inI q px s L l * 10) (y := q 3) (A := 9990) (by omega) (by omega)
      have m3 := zmulb (x := inI q px s L l) (y := armI q (L (4 * l + 1))) (A := 999) (B := 4500) (by omega) (by omega) (by omega) (by omega)
      have d3 := zdivb (y := q 3) m3.1 m3.2
      have d4 := zdivk (x := (inI q px s L l * armI q (L (4 * l + 1))).tdiv (q 3)) (A := 999 * 4500) (K := 10) (k := 10) rfl (by decide) d3.1 d3.2
      simp only
      omega
    · rw [if_neg g]
      omega
section
variable {v : tSh} {w : tQu} {q px ps s L : Nat → Int} {X Y c ch ck : Int}
theorem cQ.arm (hQ : cQ w q px ps) (hB : QB q px ps) {p : Int32} {x : Int} (hp : rp p x 100) : rp (f_Qu_arm w p) (armI q x) 4500 := by
  have a : rp (gQu_ints w 2) (q 2) 9000 := ⟨hQ.1 2 (by decide), by have := hB.2.1; omega, by have := hB.2.1; omega⟩
  exact ((a.divk (b := 2) 2 2 rfl rfl (by decide) (by decide)).mul hp (by decide)).divk (b := 100) 100 100 rfl rfl (by decide) (by decide)
theorem cQ.place (hQ : cQ w q px ps) (hB : QB q px ps) {k : Int32} {y : Int} (hk : k.toInt = y) (h0 : 0 ≤ y) (h1 : y < q 13) : ∃ e, f_Qu_postPlace w k = some e ∧ rp e (px y.toNat) 9999 := by
  have h13 := hQ.1 13 (by decide)
  have b13 := hB.2.2.2.2.2.2.2.2.2.2.2.2.1
  have hy : ((y.toNat : Nat) : Int) = y := Int.toNat_of_nonneg h0
  have e1 : ix k = y.toNat := ix_eq (by omega)
  have c1 : ¬ k < 0 := by rw [Int32.lt_iff_toInt_lt, hk]; show ¬ y < 0; omega
  have c2 : ¬ gQu_ints w 13 ≤ k := by rw [Int32.le_iff_toInt_le, hk, h13]; omega
  have c3 : ¬ (12 : Int32) ≤ k := by rw [Int32.le_iff_toInt_le, hk]; show ¬ (12 : Int) ≤ y; omega
  refine ⟨gQu_places w y.toNat, ?_, (hQ.2 _ (by omega)).1, ?_, ?_⟩
  · unfold f_Qu_postPlace
    rw [if_neg c1, if_neg c2, if_neg c3, if_pos (inb_ok (by omega) (by omega)), e1]
  · have := (hB.2.2.2.2.2.2.2.2.2.2.2.2.2 y.toNat (by omega)).1; omega
  · have := (hB.2.2.2.2.2.2.2.2.2.2.2.2.2 y.toNat (by omega)).1; omega
theorem cQ.strength (hQ : cQ w q px ps) (hB : QB q px ps) {k : Int32} {y : Int} (hk : k.toInt = y) (h0 : 0 ≤ y) (h1 : y < q 13) : ∃ e, f_Qu_postStrength w k = some e ∧ rp e (ps y.toNat) 999 := by
  have h13 := hQ.1 13 (by decide)
  have b13 := hB.2.2.2.2.2.2.2.2.2.2.2.2.1
  have hy : ((y.toNat : Nat) : Int) = y := Int.toNat_of_nonneg h0
  have e1 : ix k = y.toNat := ix_eq (by omega)
  have c1 : ¬ k < 0 := by rw [Int32.lt_iff_toInt_lt, hk]; show ¬ y < 0; omega
  have c2 : ¬ gQu_ints w 13 ≤ k := by rw [Int32.le_iff_toInt_le, hk, h13]; omega
  have c3 : ¬ (12 : Int32) ≤ k := by rw [Int32.le_iff_toInt_le, hk]; show ¬ (12 : Int) ≤ y; omega
  refine ⟨gQu_strengths w y.toNat, ?_, (hQ.2 _ (by omega)).2, ?_, ?_⟩
  · unfold f_Qu_postStrength
    rw [if_neg c1, if_neg c2, if_neg c3, if_pos (inb_ok (by omega) (by omega)), e1]
  · have := (hB.2.2.2.2.2.2.2.2.2.2.2.2.2 y.toNat (by omega)).2; omega
  · have := (hB.2.2.2.2.2.2.2.2.2.2.2.2.2 y.toNat (by omega)).2; omega
/-- how far a place is off, not held -/
theorem c_free (hS : cS (gSh_ints v) (gSh_harm v) s) (hb : SB X Y c ch ck s) (hY : Y ≤ 40000) {a : Int32} {x : Int} (ha : rp a x 4500) : rp (f_Sh_unheldOff v a) (s 1 - (x * s 2).tdiv 57296) 43534 := by
  obtain ⟨-, y1, a2, -⟩ := hS
  obtain ⟨-, b1, b2, -⟩ := hb
  have r1 : rp (gSh_ints v 1) (s 1) 40000 := ⟨y1, by omega, by omega⟩
  have r2 : rp (gSh_ints v 2) (s 2) 45000 := ⟨a2, by omega, by omega⟩
  exact r1.sub ((ha.mul r2 (by decide)).divk (b := 57296) 57296 57296 rfl rfl (by decide) (by decide)) (by decide)
theorem c_off (hS : cS (gSh_ints v) (gSh_harm v) s) (hb : SB X Y c ch ck s) (hY : Y ≤ 40000) (hQ : cQ w q px ps) (hB : QB q px ps) {p : Int32} {x : Int} (hp : rp p x 100) : rp (f_Sh_wayOff v (f_Qu_arm w p)) (offI q s x) 43534 := by
  have h := c_free hS hb hY (hQ.arm hB hp)
  have e := (rp.lit 0 0 (a := 0) rfl rfl).max h
  unfold f_Sh_wayOff
  have k : offI q s x = (if 0 < s 1 - (armI q x * s 2).tdiv 57296 then s 1 - (armI q x * s 2).tdiv 57296 else 0) := by
    unfold offI freeI; split <;> split <;> omega
  rw [k]; exact e
theorem c_way (hS : cS (gSh_ints v) (gSh_harm v) s) (hb : SB X Y c ch ck s) (hX : X ≤ 20000) (hQ : cQ w q px ps) (hB : QB q px ps) {p k : Int32} {x y : Int} (hp : rp p x 100) (hk : k.toInt = y) (h0 : 0 ≤ y) (h1 : y < q 13) : ∃ e, f_Sh_wayAlong v w p k = some e ∧ rp e (wayI q px s x y) 34499 := by
  obtain ⟨e, he, hr⟩ := hQ.place hB hk h0 h1
  obtain ⟨x0, -⟩ := hS
  obtain ⟨b0, -⟩ := hb
  have r0 : rp (gSh_ints v 0) (s 0) 20000 := ⟨x0, by omega, by omega⟩
  refine ⟨_, ?_, hr.sub (r0.add (hQ.arm hB hp) (by decide)) (by decide)⟩
  unfold f_Sh_wayAlong
  rw [he]; rfl
theorem c_dist (hS : cS (gSh_ints v) (gSh_harm v) s) (hb : SB X Y c ch ck s) (hX : X ≤ 20000) (hY : Y ≤ 40000) (hQ : cQ w q px ps) (hB : QB q px ps) {p k : Int32} {x y : Int} (hp : rp p x 100) (hk : k.toInt = y) (h0 : 0 ≤ y) (h1 : y < q 13) : ∃ e, f_Sh_distance v w p k = some e ∧ rp e (distI q px s x y) 60000 := by
  obtain ⟨e, he, hr⟩ := c_way hS hb hX hQ hB hp hk h0 h1
  have ho := c_off hS hb hY hQ hB hp
  obtain ⟨t, ht, hv⟩ := f_AL_root_ok (hr.wide _ (by decide)) (ho.wide _ (by decide))
  refine ⟨t, ?_, hv, ?_, ?_⟩
  · unfold f_Sh_distance
    rw [he]
    show Option.bind (f_AL_rootOfSquares e (f_Sh_wayOff v (f_Qu_arm w p))) _ = _
    rw [ht]; rfl
  · have := distI_nonneg q px s x y; omega
  · exact distI_le (by have := hr.2.1; omega) (by have := hr.2.2; omega) (by have := ho.2.2; omega)
theorem c_pull (hQ : cQ w q px ps) (hB : QB q px ps) {d n : Int32} {x y : Int} (hd : rp d x 60000) (hn : rp n y 60000) : rp (f_Sh_pull w d n) (pullI q x y) 1188000 := by
  have a : rp (gQu_ints w 11) (q 11) 99 := ⟨hQ.1 11 (by decide), by have := hB.2.2.2.2.2.2.2.2.2.2.1; omega, by have := hB.2.2.2.2.2.2.2.2.2.2.1; omega⟩
  have e := (rp.lit 0 0 (a := 0) rfl rfl).max (((hd.sub hn (by decide)).mul a (by decide)).divk (b := 10) 10 10 rfl rfl (by decide) (by decide))
  unfold f_Sh_pull
  have k : pullI q x y = (if 0 < ((x - y) * q 11).tdiv 10 then ((x - y) * q 11).tdiv 10 else 0) := by
    unfold pullI; split <;> split <;> omega
  rw [k]; exact e
theorem c_weight (hQ : cQ w q px ps) (hB : QB q px ps) : rp (zmax 1 (gQu_ints w 3)) (q 3) 99 := by
  have a : rp (gQu_ints w 3) (q 3) 99 := ⟨hQ.1 3 (by decide), by have := hB.2.2.1; omega, by have := hB.2.2.1; omega⟩
  have e := (rp.lit 1 1 (a := 1) rfl rfl).max a
  refine ⟨?_, a.2⟩
  rw [e.1]; have := hB.2.2.1; split <;> omega
/-- engine and weather -/
theorem c_gain0 (hS : cS (gSh_ints v) (gSh_harm v) s) (hb : SB X Y c ch ck s) (hQ : cQ w q px ps) (hB : QB q px ps) : ∃ r, f_Sh_gainByEngineAndWeather v w = some r ∧ (∀ k, k < 15 → r k = gSh_ints v k) ∧ (r 15).toInt = (gain0 q s).1 ∧ (r 16).toInt = (gain0 q s).2.1 ∧ (r 17).toInt = (gain0 q s).2.2 := by
  have wt := c_weight hQ hB
  obtain ⟨-, -, -, g3, g4, g5, g6, g7, g8, -⟩ := hS
  have hB0 := hB
  obtain ⟨-, -, b3, b4, b5, b6, b7, b8, b9, b10, b11, b12, -, -⟩ := hB
  obtain ⟨-, -, s2, s3, s4, s5, s6, s7, s8, -⟩ := hb
  have p3 : rp (gSh_ints v 3) (s 3) 50000 := ⟨g3, by omega, by omega⟩
  have p4 : rp (gSh_ints v 4) (s 4) 50000 := ⟨g4, by omega, by omega⟩
  have p5 : rp (gSh_ints v 5) (s 5) 20000 := ⟨g5, by omega, by omega⟩
  have p6 : rp (gSh_ints v 6) (s 6) 3 := ⟨g6, by omega, by omega⟩
  have p7 : rp (gSh_ints v 7) (s 7) 3 := ⟨g7, by omega, by omega⟩
  have p8 : rp (gSh_ints v 8) (s 8) 99 := ⟨g8, by omega, by omega⟩
  have q4 : rp (gQu_ints w 4) (q 4) 50 := ⟨hQ.1 4 (by decide), by omega, by omega⟩
  have q5 : rp (gQu_ints w 5) (q 5) 99 := ⟨hQ.1 5 (by decide), by omega, by omega⟩
  have q6 : rp (gQu_ints w 6) (q 6) 99 := ⟨hQ.1 6 (by decide), by omega, by omega⟩
  have q7 : rp (gQu_ints w 7) (q 7) 50 := ⟨hQ.1 7 (by decide), by omega, by omega⟩
  have q8 : rp (gQu_ints w 8) (q 8) 50 := ⟨hQ.1 8 (by decide), by omega, by omega⟩
  have q9 : rp (gQu_ints w 9) (q 9) 50 := ⟨hQ.1 9 (by decide), by omega, by omega⟩
  have q10 : rp (gQu_ints w 10) (q 10) 99 := ⟨hQ.1 10 (by decide), by omega, by omega⟩
  have r15 := (p6.mul q4 (by decide)).sub ((p3.mul q7 (by decide)).divk (b := 100) 100 100 rfl rfl (by decide) (by decide)) (by decide)
  have r16 := (((p8.mul (rp.lit 10 10 (a := 10) rfl rfl) (by decide)).div wt (by decide)).sub q10 (by decide)).sub ((p4.mul q8 (by decide)).divk (b := 100) 100 100 rfl rfl (by decide) (by decide)) (by decide)
  have r17 := (((((p7.mul p3 (by decide)).divk (b := 100) 100 100 rfl rfl (by decide) (by decide)).mul q6 (by decide)).div wt (by decide))).sub ((p5.mul q9 (by decide)).divk (b := 100) 100 100 rfl rfl (by decide) (by decide)) (by decide)
  have r17b := r17.add ((p6.mul q5 (by decide)).div wt (by decide)) (by decide)
  have w0 : ¬ zmax 1 (gQu_ints w 3) = 0 := fun h => by
    have := (wt.eqi (rp.lit 0 0 (a := 0) rfl rfl)).mp h; omega
  unfold f_Sh_gainByEngineAndWeather
  simp only [zlet]
  rw [if_neg w0, if_neg w0]
  by_cases d : (0 : Int32) ≤ gSh_ints v 6
  · rw [if_pos d]
    have d' := ((rp.lit 0 0 (a := 0) rfl rfl).le p6).mp d
    refine ⟨_, rfl, fun k hk => ?_, ?_, ?_, ?_⟩
    · rw [upd_ne _ _ (by omega), upd_ne _ _ (by omega), upd_ne _ _ (by omega)]
    · rw [upd_ne _ _ (by decide), upd_ne _ _ (by decide), upd_eq]; exact r15.1
    · rw [upd_ne _ _ (by decide), upd_eq]; exact r16.1
    · rw [upd_eq, r17.1]; unfold gain0; simp only; rw [if_neg (by omega)]; omega
  · rw [if_neg d, if_neg w0]
    have d' : ¬ 0 ≤ s 6 := fun h => d (((rp.lit 0 0 (a := 0) rfl rfl).le p6).mpr h)
    refine ⟨_, rfl, fun k hk => ?_, ?_, ?_, ?_⟩
    · rw [upd_ne _ _ (by omega), upd_ne _ _ (by omega), upd_ne _ _ (by omega)]
    · rw [upd_ne _ _ (by decide), upd_ne _ _ (by decide), upd_eq]; exact r15.1
    · rw [upd_ne _ _ (by decide), upd_eq]; exact r16.1
    · rw [upd_eq, r17b.1]; unfold gain0; simp only; rw [if_pos (by omega)]
end
