/-! THE PURE SIDE 8: push, knock, gap of the reference; its second -/
theorem m_held {a m : Int64} {x : Int} {A : Nat} (ha : rq a x A) (M : Nat) (hm : rq m (M : Int) M) (hM : M ≤ 1000000) : rq (f_Mo_held a m) (heldI x (M : Int)) M := by
  have hn := hm.neg (by omega)
  unfold f_Mo_held heldI
  by_cases d : a ≤ m
  · have d' := (ha.le hm).mp d
    rw [if_pos d, if_neg (show ¬ (M : Int) < x by omega)]
    by_cases e : -m ≤ a
    · have e' := (hn.le ha).mp e
      rw [if_pos e, if_neg (by omega)]; exact ha.tight _ (by omega) (by omega)
    · have e' : ¬ _ := fun g => e ((hn.le ha).mpr g)
      rw [if_neg e, if_pos (by omega)]; exact hn
  · have d' : ¬ _ := fun g => d ((ha.le hm).mpr g)
    rw [if_neg d, if_pos (show (M : Int) < x by omega)]; exact hm
section
variable {m : tMo} {q px ps s L : Nat → Int} {X Y c ch ck : Int}
theorem m_push (hS : mS (gMo_ship m) s) (hb : SB X Y c ch ck s) (hX : X ≤ 20000) (hY : Y ≤ 40000) (hQ : mQ (gMo_ints m) (gMo_told m) (gMo_postX m) (gMo_postStrong m) q px ps) (hB : QB q px ps) (hL : LB q L) (hl : mL (gMo_lines m) (restI q px ps s L)) :
    ∃ r, f_Mo_push m = some r ∧ mS r (us (us (us s 3 (heldI (s 3 + (gainI q px ps s L 6).1) 50000)) 4 (heldI (s 4 + (gainI q px ps s L 6).2.1) 50000)) 5 (heldI (s 5 + (gainI q px ps s L 6).2.2) 20000)) := by
  have hS0 := hS
  have hb0 := hb
  have hLr : LB q (restI q px ps s L) := restI_LB hL
  obtain ⟨c0, c1, c2, g3, g4, g5, g6, g7, g8, c9, c10, c11, c12⟩ := hS
  have hB0 := hB
  obtain ⟨-, -, b3, b4, b5, b6, b7, b8, b9, b10, b11, b12, -, -⟩ := hB
  obtain ⟨-, -, s2, s3, s4, s5, s6, s7, s8, -⟩ := hb
  have p3 : rq (gMo_ship m 3) (s 3) 50000 := ⟨g3, by omega, by omega⟩
  have p4 : rq (gMo_ship m 4) (s 4) 50000 := ⟨g4, by omega, by omega⟩
  have p5 : rq (gMo_ship m 5) (s 5) 20000 := ⟨g5, by omega, by omega⟩
  have p6 : rq (gMo_ship m 6) (s 6) 3 := ⟨g6, by omega, by omega⟩
  have p7 : rq (gMo_ship m 7) (s 7) 3 := ⟨g7, by omega, by omega⟩
  have p8 : rq (gMo_ship m 8) (s 8) 99 := ⟨g8, by omega, by omega⟩
  have q3 := (rp.of (a := gMo_told m 3) 99 (hQ.1 3 (by decide)) (by omega) (by omega)).long
  have q4 := (rp.of (a := gMo_told m 4) 50 (hQ.1 4 (by decide)) (by omega) (by omega)).long
  have q5 := (rp.of (a := gMo_told m 5) 99 (hQ.1 5 (by decide)) (by omega) (by omega)).long
  have q6 := (rp.of (a := gMo_told m 6) 99 (hQ.1 6 (by decide)) (by omega) (by omega)).long
  have q7 := (rp.of (a := gMo_told m 7) 50 (hQ.1 7 (by decide)) (by omega) (by omega)).long
  have q8 := (rp.of (a := gMo_told m 8) 50 (hQ.1 8 (by decide)) (by omega) (by omega)).long
  have q9 := (rp.of (a := gMo_told m 9) 50 (hQ.1 9 (by decide)) (by omega) (by omega)).long
  have q10 := (rp.of (a := gMo_told m 10) 99 (hQ.1 10 (by decide)) (by omega) (by omega)).long
  have r15 := (p6.mul q4 (by decide)).sub ((p3.mul q7 (by decide)).divk (b := 100) 100 100 rfl rfl (by decide) (by decide)) (by decide)
  have r16 := (((p8.mul (rq.lit 10 10 (a := 10) rfl rfl) (by decide)).div q3 (by decide)).sub q10 (by decide)).sub ((p4.mul q8 (by decide)).divk (b := 100) 100 100 rfl rfl (by decide) (by decide)) (by decide)
  have r17 := (((((p7.mul p3 (by decide)).divk (b := 100) 100 100 rfl rfl (by decide) (by decide)).mul q6 (by decide)).div q3 (by decide))).sub ((p5.mul q9 (by decide)).divk (b := 100) 100 100 rfl rfl (by decide) (by decide)) (by decide)
  have r17b := (p6.mul q5 (by decide)).div q3 (by decide)
  unfold f_Mo_push
  refine zlet_ex fun z1 h1 => ?_
  rw [← h1] at q3 r16 r17 r17b
  have w0 : ¬ z1 = 0 := fun h => by
    have := (q3.eqi (rq.lit 0 0 (a := 0) rfl rfl)).mp h; omega
  refine zlet_ex fun z2 h2 => ?_
  rw [← h2] at r15
  rw [if_neg w0]
  refine zlet_ex fun z4 h4 => ?_
  rw [← h4] at r16
  rw [if_neg w0]
  refine zlet_ex fun z6 h6 => ?_
  rw [← h6] at r17
  refine bind_ex' (P := fun (x : Int64) => rq x (if s 6 < 0 then (s 6 * q 5).tdiv (q 3) else 0) 297) ?_ (fun w7 h7 => ?_)
  · by_cases d : (0 : Int64) ≤ gMo_ship m 6
    · have d' := ((rq.lit 0 0 (a := 0) rfl rfl).le p6).mp d
      rw [if_pos d, if_neg (by omega)]; exact ⟨_, rfl, rq.lit 0 _ rfl rfl⟩
    · have d' : ¬ _ := fun g => d (((rq.lit 0 0 (a := 0) rfl rfl).le p6).mpr g)
      rw [if_neg d, if_neg w0, if_pos (by omega)]; exact ⟨_, rfl, r17b⟩
  refine zlet_ex fun z11 h11 => ?_
  have r11 := r17.add h7 (by decide)
  rw [← h11] at r11
  have gb := fun i hi => gainI_b hB0 hL hb0 i hi
  have loop : ∃ e, lp (fB_Mo_push_180 m z1) LF (z2, z4, z11, 0) = some e ∧ (e.1.toInt = (gainI q px ps s L 6).1 ∧ e.2.1.toInt = (gainI q px ps s L 6).2.1 ∧ e.2.2.1.toInt = (gainI q px ps s L 6).2.2) := by
    refine lp_inv (N := 6) (I := fun i t => t.1.toInt = (gainI q px ps s L i).1 ∧ t.2.1.toInt = (gainI q px ps s L i).2.1 ∧ t.2.2.1.toInt = (gainI q px ps s L i).2.2 ∧ t.2.2.2.toInt = (i : Int)) (by decide) ?_ ?_ (i := 0) (by decide) ⟨r15.1, r16.1, r11.1, rfl⟩
    · rintro i hi ⟨t1, t2, t3, j⟩ ih ⟨a1, a2, a3, a4⟩ go
      have a1 : t1.toInt = (gainI q px ps s L i).1 := a1
      have a2 : t2.toInt = (gainI q px ps s L i).2.1 := a2
      have a3 : t3.toInt = (gainI q px ps s L i).2.2 := a3
      have a4 : j.toInt = (i : Int) := a4
      have gi := gb i (by omega)
      have y1 : rq t1 (gainI q px ps s L i).1 10000000 := ⟨a1, by omega, by omega⟩
      have y2 : rq t2 (gainI q px ps s L i).2.1 10000000 := ⟨a2, by omega, by omega⟩
      have y3 : rq t3 (gainI q px ps s L i).2.2 10000000 := ⟨a3, by omega, by omega⟩
      have j6 : ¬ (6 : Int32) ≤ j := by rw [Int32.le_iff_toInt_le, a4]; show ¬ (6 : Int) ≤ _; omega
      have js := toInt_succ a4 (by omega)
      have re := rest_e0 (q := q) (px := px) (ps := ps) (s := s) hL hi
      simp only [fB_Mo_push_180]
      rw [if_neg j6]
      refine bind_ex (m_isFast hl hi a4) ?_
      by_cases hf : restI q px ps s L (4 * i) = 1
      · rw [if_pos hf, if_neg (show ¬ (1 : Int32) = 0 by decide)]
        obtain ⟨hf1, hg⟩ := re.mp hf
        have hLl : (-100 ≤ L (4 * i + 1) ∧ L (4 * i + 1) ≤ 100) ∧ (0 ≤ L (4 * i + 2) ∧ L (4 * i + 2) < q 13) ∧ (0 ≤ L (4 * i + 3) ∧ L (4 * i + 3) ≤ 60000) := by
          rcases hL i hi with h | h
          · omega
          · exact h.2
        obtain ⟨i1, j1⟩ := ix4c a4 hi (c := 1) (k := 1) rfl (by decide)
        obtain ⟨i2, j2⟩ := ix4c a4 hi (c := 2) (k := 2) rfl (by decide)
        rw [if_pos j1, i1]
        refine zlet_ex fun z22 h22 => ?_
        have l1 := hl (4 * i + 1) (by omega)
        have l2 := hl (4 * i + 2) (by omega)
        rw [rest_e1] at l1
        rw [rest_e2] at l2
        have rpl : rp z22 (L (4 * i + 1)) 100 := by rw [h22]; exact ⟨l1, by omega, by omega⟩
        rw [if_pos j2, i2]
        refine bind_ex' (m_dist hS0 hb0 hX hY hQ hB0 rpl l2 hLl.2.1.1 hLl.2.1.2) (fun r24 h24 => ?_)
        refine zlet_ex fun w25 h25 => ?_
        have k25 : rq w25 (farI q px s L i) 60000 := by
          rw [h25]
          unfold farI
          by_cases d : (1 : Int64) ≤ r24
          · have d' := ((rq.lit 1 1 (a := 1) rfl rfl).le h24).mp d
            rw [if_pos d]
            exact h24.of0 (by split <;> omega)
          · have d' : ¬ _ := fun g => d (((rq.lit 1 1 (a := 1) rfl rfl).le h24).mpr g)
            rw [if_neg d, if_neg (by omega)]
            exact rq.lit 1 _ rfl rfl
        have f0 : ¬ w25 = 0 := fun h => by
          have := (k25.eqi (rq.lit 0 0 (a := 0) rfl rfl)).mp h
          have := farI_pos q px s L i; omega
        refine bind_ex' (m_pull hS0 hb0 hX hY hQ hB0 hLr hl hi a4 hf) (fun r28 h28 => ?_)
        have pe : lpullI q px s (restI q px ps s L) i = lpullI q px s L i := by
          unfold lpullI; rw [rest_e1, rest_e2, rest_e3]
        rw [pe] at h28
        have lb := lpullI_b hB0 hL hi hf1 hg
        have ib := inI_b hB0 hL hi hf1 hg
        have ob := outI_b hB0 hL hi hf1 hg
        have b13 := hB0.2.2.2.2.2.2.2.2.2.2.2.2.1
        rw [if_pos j2, if_pos (inb_ok (i := gMo_lines m (4 * i + 2)) (n := 12) (by omega) (by omega))]
        refine zlet_ex fun z31 h31 => ?_
        have k31 := m_way hS0 hb0 hX hQ hB0 rpl l2 hLl.2.1.1 hLl.2.1.2
        rw [← h31] at k31
        rw [if_neg f0]
        refine zlet_ex fun z33 h33 => ?_
        have ko := m_off hS0 hb0 hY hQ hB0 rpl
        have h28' := h28.tight 999 (by omega) (by omega)
        have k33 : rq z33 (inI q px s L i) 999 := by
          rw [h33]; exact ((h28'.mul ko (by decide)).div k25 (by decide)).tight 999 ib.1 ib.2
        rw [if_neg f0, if_neg w0]
        have ge : gainI q px ps s L (i + 1) = ((gainI q px ps s L i).1 + ((lpullI q px s L i * wayI q px s (L (4 * i + 1)) (L (4 * i + 2))).tdiv (farI q px s L i) * 10).tdiv (q 3), (gainI q px ps s L i).2.1 + (inI q px s L i * 10).tdiv (q 3), (gainI q px ps s L i).2.2 + ((inI q px s L i * armI q (L (4 * i + 1))).tdiv (q 3)).tdiv 10) := by
          rw [show gainI q px ps s L (i + 1) = (if L (4 * i) = 1 ∧ goneI q px ps s L i = 0 then _ else gainI q px ps s L i) from rfl, if_pos ⟨hf1, hg⟩]
        have k15' := ((h28'.mul k31 (by decide)).div k25 (by decide)).tight 999 ob.1 ob.2
        have f15 := y1.add ((k15'.mul (rq.lit 10 10 (a := 10) rfl rfl) (by decide)).div q3 (by decide)) (by decide)
        have f16 := y2.add ((k33.mul (rq.lit 10 10 (a := 10) rfl rfl) (by decide)).div q3 (by decide)) (by decide)
        have f17 := y3.add (((k33.mul (m_arm hQ hB0 rpl) (by decide)).div q3 (by decide)).divk (b := 10) 10 10 rfl rfl (by decide) (by decide)) (by decide)
        refine zlet_ex fun z36 h36 => ?_
        rw [if_neg w0]
        refine zlet_ex fun z38 h38 => ?_
        rw [if_neg w0]
        refine zlet_ex fun z40 h40 => ?_
        rw [← h36] at f15
        rw [← h38] at f16
        rw [← h40] at f17
        refine go _ ⟨?_, ?_, ?_, js⟩
        · rw [ge]; exact f15.1
        · rw [ge]; exact f16.1
        · rw [ge]; exact f17.1
      · rw [if_neg hf, if_pos rfl]
        have ge : gainI q px ps s L (i + 1) = gainI q px ps s L i := by
          rw [show gainI q px ps s L (i + 1) = (if L (4 * i) = 1 ∧ goneI q px ps s L i = 0 then _ else gainI q px ps s L i) from rfl, if_neg (fun h => hf (re.mpr h))]
        refine go _ ⟨?_, ?_, ?_, js⟩
        · rw [ge]; exact a1
        · rw [ge]; exact a2
        · rw [ge]; exact a3
    · rintro ⟨t1, t2, t3, j⟩ ih ⟨a1, a2, a3, a4⟩
      have a4 : j.toInt = 6 := a4
      have j6 : (6 : Int32) ≤ j := by rw [Int32.le_iff_toInt_le, a4]; decide
      simp only [fB_Mo_push_180]
      rw [if_pos j6]
      exact ⟨_, rfl, a1, a2, a3⟩
  refine bind_ex' loop (fun q13 h13 => ?_)
  have g6 := gb 6 (by decide)
  have k1 := m_held (p3.add (rq.of 10000000 h13.1 (by omega) (by omega)) (by decide)) (m := 50000) 50000 (rq.lit _ _ rfl rfl) (by decide)
  have k2 := m_held (p4.add (rq.of 10000000 h13.2.1 (by omega) (by omega)) (by decide)) (m := 50000) 50000 (rq.lit _ _ rfl rfl) (by decide)
  have k3 := m_held (p5.add (rq.of 10000000 h13.2.2 (by omega) (by omega)) (by decide)) (m := 20000) 20000 (rq.lit _ _ rfl rfl) (by decide)
  refine zlet_ex fun z41 h41 => ?_
  refine zlet_ex fun z42 h42 => ?_
  refine zlet_ex fun z43 h43 => ?_
  rw [← h41] at k1
  rw [← h42] at k2
  rw [← h43] at k3
  refine ⟨_, rfl, ?_⟩
  refine ⟨?_, ?_, ?_, ?_, ?_, ?_, ?_, ?_, ?_, ?_, ?_, ?_, ?_⟩ <;> (try simp (disch := decide) only [updL_eq, updL_ne, us_eq, us_ne])
  · exact c0
  · exact c1
  · exact c2
  · exact k1.1
  · exact k2.1
  · exact k3.1
  · exact p6.1
  · exact p7.1
  · exact p8.1
  · exact c9
  · exact c10
  · exact c11
  · exact c12
theorem m_knock (hS : mS (gMo_ship m) s) (hb : SB X Y c ch ck s) (hY : Y ≤ 40000) (hc : c ≤ 1000001) (hch : ch ≤ 1001000000000000) (hck : ck ≤ 2000010) (hQ : mQ (gMo_ints m) (gMo_told m) (gMo_postX m) (gMo_postStrong m) q px ps) (hB : QB q px ps) {p : Int32} {x : Int} (hp : rp p x 100) : mS (f_Mo_knock m p) (knockI q s x) := by
  have ra := m_arm hQ hB hp
  have rf := m_free hS hb hY hQ hB hp
  have hit := hitI_b hB hb (p := x) hp.2.1 hp.2.2
  have hS0 := hS
  obtain ⟨c0, c1, c2, c3, c4, c5, c6, c7, c8, c9, c10, c11, c12⟩ := hS
  obtain ⟨b0, b1, b2, b3, b4, b5, b6, b7, b8, b9, b10, b11, b12⟩ := hb
  have r1 : rq (gMo_ship m 1) (s 1) 40000 := ⟨c1, by omega, by omega⟩
  have r2 : rq (gMo_ship m 2) (s 2) 45000 := ⟨c2, by omega, by omega⟩
  have r3 : rq (gMo_ship m 3) (s 3) 50000 := ⟨c3, by omega, by omega⟩
  have r4 : rq (gMo_ship m 4) (s 4) 50000 := ⟨c4, by omega, by omega⟩
  have r5 : rq (gMo_ship m 5) (s 5) 20000 := ⟨c5, by omega, by omega⟩
  have r10 : rq (gMo_ship m 10) (s 10) 1001000000000000 := ⟨c10, by omega, by omega⟩
  have r11 : rq (gMo_ship m 11) (s 11) 2000010 := ⟨c11, by omega, by omega⟩
  have w3 := (rp.of (a := gMo_told m 3) 99 (hQ.1 3 (by decide)) (by have := hB.2.2.1; omega) (by have := hB.2.2.1; omega)).long
  have w12 := (rp.of (a := gMo_told m 12) 999 (hQ.1 12 (by decide)) (by have := hB.2.2.2.2.2.2.2.2.2.2.2.1; omega) (by have := hB.2.2.2.2.2.2.2.2.2.2.2.1; omega)).long
  unfold f_Mo_knock
  refine zlet_P (fun r => mS r _) fun z1 h1 => ?_
  rw [← h1] at rf
  unfold knockI
  by_cases d : z1 < 0
  · have d' := (rf.lt (rq.lit 0 0 (a := 0) rfl rfl)).mp d
    rw [if_pos d, if_pos d']
    refine zlet_P (fun r => mS r _) fun z3 h3 => ?_
    have k3 : rq z3 (hitI q s x) 2463 := by
      rw [h3]
      exact (((r4.add ((r3.mul r2 (by decide)).divk (b := 57296) 57296 57296 rfl rfl (by decide) (by decide)) (by decide)).add ((r5.mul ra (by decide)).divk (b := 573) 573 573 rfl rfl (by decide) (by decide)) (by decide)).divk (b := 100) 100 100 rfl rfl (by decide) (by decide)).tight 2463 hit.1 hit.2
    generalize hitI q s x = hx at k3 hit
    refine zlet_P (fun r => mS r _) fun w4 h4 => ?_
    have k4 : mS w4 (knock1 q s hx) := by
      rw [h4]
      unfold knock1
      by_cases e : z3 ≤ (gMo_told m 12).toInt64
      · have e' := (k3.le w12).mp e
        rw [if_pos e, if_neg (by omega)]; exact hS0
      · have e' : ¬ _ := fun g => e ((k3.le w12).mpr g)
        rw [if_neg e, if_pos (by omega)]
        refine zlet_P (fun r => mS r _) fun z7 h7 => ?_
        refine zlet_P (fun r => mS r _) fun z8 h8 => ?_
        have k7 := r11.add (rq.lit 1 1 (a := 1) rfl rfl) (by decide)
        have k8 := r10.add (((k3.mul k3 (by decide)).mul w3 (by decide)).divk (b := 10) 10 10 rfl rfl (by decide) (by decide)) (by decide)
        rw [← h7] at k7
        rw [← h8] at k8
        refine ⟨?_, ?_, ?_, ?_, ?_, ?_, ?_, ?_, ?_, ?_, ?_, ?_, ?_⟩ <;> (try simp (disch := decide) only [updL_eq, updL_ne, us_eq, us_ne])
        · exact c0
        · exact c1
        · exact c2
        · exact c3
        · exact c4
        · exact c5
        · exact c6
        · exact c7
        · exact c8
        · exact c9
        · exact k8.1
        · exact k7.1
        · exact c12
    have e5 : knock1 q s hx 5 = s 5 := by
      unfold knock1; split
      · simp (disch := decide) only [us_eq, us_ne]
      · rfl
    have e1 : knock1 q s hx 1 = s 1 := by
      unfold knock1; split
      · simp (disch := decide) only [us_eq, us_ne]
      · rfl
    generalize knock1 q s hx = t1 at k4 e5 e1
    refine zlet_P (fun r => mS r _) fun w9 h9 => ?_
    have k9 : mS w9 (knock2 t1 hx) := by
      rw [h9]
      unfold knock2
      have k40 := k4
      obtain ⟨d0, d1, d2, d3, d4, d5, d6, d7, d8, d9, d10, d11, d12⟩ := k4
      by_cases e : z3 ≤ 0
      · have e' := (k3.le (rq.lit 0 0 (a := 0) rfl rfl)).mp e
        rw [if_pos e, if_neg (by omega)]; exact k40
      · have e' : ¬ _ := fun g => e ((k3.le (rq.lit 0 0 (a := 0) rfl rfl)).mpr g)
        rw [if_neg e, if_pos (by omega)]
        refine zlet_P (fun r => mS r _) fun z12 h12 => ?_
        have k12 := ((rq.of (a := w4 5) 20000 d5 (by omega) (by omega)).divk (b := 3) 3 3 rfl rfl (by decide) (by decide)).neg (by decide)
        rw [← h12] at k12
        refine ⟨?_, ?_, ?_, ?_, ?_, ?_, ?_, ?_, ?_, ?_, ?_, ?_, ?_⟩ <;> (try simp (disch := decide) only [updL_eq, updL_ne, us_eq, us_ne])
        · exact d0
        · exact d1
        · exact d2
        · exact d3
        · rfl
        · exact k12.1
        · exact d6
        · exact d7
        · exact d8
        · exact d9
        · exact d10
        · exact d11
        · exact d12
    have f1 : knock2 t1 hx 1 = s 1 := by
      unfold knock2; split
      · simp (disch := decide) only [us_eq, us_ne]; exact e1
      · exact e1
    generalize knock2 t1 hx = t2 at k9 f1
    refine zlet_P (fun r => mS r _) fun z13 h13 => ?_
    obtain ⟨d0, d1, d2, d3, d4, d5, d6, d7, d8, d9, d10, d11, d12⟩ := k9
    have k13 := (rq.of (a := w9 1) 40000 d1 (by omega) (by omega)).sub rf (by decide)
    rw [← h13] at k13
    refine ⟨?_, ?_, ?_, ?_, ?_, ?_, ?_, ?_, ?_, ?_, ?_, ?_, ?_⟩ <;> (try simp (disch := decide) only [updL_eq, updL_ne, us_eq, us_ne])
    · exact d0
    · rw [k13.1, f1]
    · exact d2
    · exact d3
    · exact d4
    · exact d5
    · exact d6
    · exact d7
    · exact d8
    · exact d9
    · exact d10
    · exact d11
    · exact d12
  · have d' : ¬ _ := fun g => d ((rf.lt (rq.lit 0 0 (a := 0) rfl rfl)).mpr g)
    rw [if_neg d, if_neg d']; exact hS0
theorem m_gapL {f : Nat → Int64} {s : Nat → Int} (hS : mS f s) {x0 x10 : Int} {z t : Int64} (hz : z.toInt = x0) (ht : t.toInt = x10) : mS (vp_updL (vp_updL (vp_updL f 10 t) 3 0) 0 z) (us (us (us s 10 x10) 3 0) 0 x0) := by
  obtain ⟨c0, c1, c2, c3, c4, c5, c6, c7, c8, c9, c10, c11, c12⟩ := hS
  refine ⟨?_, ?_, ?_, ?_, ?_, ?_, ?_, ?_, ?_, ?_, ?_, ?_, ?_⟩ <;> (try simp (disch := decide) only [updL_eq, updL_ne, us_eq, us_ne])
  · exact hz
  · exact c1
  · exact c2
  · rfl
  · exact c4
  · exact c5
  · exact c6
  · exact c7
  · exact c8
  · exact c9
  · exact ht
  · exact c11
  · exact c12
end
