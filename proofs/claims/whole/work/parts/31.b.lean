/-! THE PURE SIDE 11: the plan, seconds one after the other -/
def stI (T E R : Nat → Int) : Nat → Int → (Nat → Int) → Nat → Int
  | 0, _, s => s
  | i + 1, k, s => if T i = k then us (us (stI T E R i k s) 6 (E i)) 7 (R i) else stI T E R i k s
def PB (n : Nat) (T E R : Nat → Int) : Prop := n ≤ 20 ∧ (∀ i, i < n → (0 ≤ T i ∧ T i ≤ 999) ∧ (-3 ≤ E i ∧ E i ≤ 3) ∧ (-3 ≤ R i ∧ R i ≤ 3)) ∧ (∀ i j, i < j → j < n → T i < T j)
def cP (w : tPl) (n : Nat) (T E R : Nat → Int) : Prop := (gPl_ints w 0).toInt = (n : Int) ∧ ∀ i, i < n → (gPl_seconds w i).toInt = T i ∧ (gPl_engines w i).toInt = E i ∧ (gPl_wheels w i).toInt = R i
def mP (i a : Nat → Int32) (n : Nat) (T E R : Nat → Int) : Prop := (i 4).toInt = (n : Int) ∧ ∀ k, k < n → (a (3 * k)).toInt = T k ∧ (a (3 * k + 1)).toInt = E k ∧ (a (3 * k + 2)).toInt = R k
theorem stI_none {T E R : Nat → Int} {k : Int} (s : Nat → Int) (n : Nat) (h : ∀ i, i < n → T i ≠ k) : stI T E R n k s = s := by
  induction n with
  | zero => rfl
  | succ n ih =>
    unfold stI
    rw [if_neg (h n (by omega))]
    exact ih (fun i hi => h i (by omega))
theorem stI_one {T E R : Nat → Int} {k : Int} (s : Nat → Int) (n p : Nat) (hp : p < n) (hk : T p = k) (h : ∀ i, i < n → i ≠ p → T i ≠ k) : stI T E R n k s = us (us s 6 (E p)) 7 (R p) := by
  induction n with
  | zero => omega
  | succ n ih =>
    unfold stI
    by_cases e : p = n
    · subst e
      rw [if_pos hk, stI_none s p (fun i hi => h i (by omega) (by omega))]
    · rw [if_neg (h n (by omega) (by omega))]
      exact ih (by omega) (fun i hi => h i (by omega))
theorem stI_RB {T E R : Nat → Int} {n : Nat} (hP : PB n T E R) {k c : Int} {s : Nat → Int} (hR : RB c s) : ∀ j, j ≤ n → RB c (stI T E R j k s) := by
  intro j
  induction j with
  | zero => intro _; exact hR
  | succ j ih =>
    intro hj
    have i1 := ih (by omega)
    unfold stI
    split
    · have b := hP.2.1 j (by omega)
      unfold RB SB at i1 ⊢
      simp (disch := decide) only [us_eq, us_ne]
      omega
    · exact i1
theorem stI_10 (T E R : Nat → Int) (n : Nat) (k : Int) (s : Nat → Int) : stI T E R n k s 10 = s 10 := by
  induction n with
  | zero => rfl
  | succ n ih =>
    unfold stI
    split
    · simp (disch := decide) only [us_ne]; exact ih
    · exact ih
/-- the class's finger in the plan: all ahead of it are behind us -/
def cN (n : Nat) (T : Nat → Int) (k : Int) (p : Nat) : Prop := p ≤ n ∧ (∀ i, i < p → T i < k) ∧ (∀ i, p ≤ i → i < n → k ≤ T i)
theorem cN0 {n : Nat} {T E R : Nat → Int} (hP : PB n T E R) : cN n T 0 0 := ⟨by omega, fun i h => absurd h (by omega), fun i _ h => (hP.2.1 i h).1.1⟩
theorem c_steer {w : tPl} {v : tSh} {n : Nat} {T E R s : Nat → Int} (hP : PB n T E R) (hw : cP w n T E R) (hS : cS (gSh_ints v) (gSh_harm v) s) {nx k : Int32} {p : Nat} {kk : Int} (hn : nx.toInt = (p : Int)) (hk : k.toInt = kk) (hN : cN n T kk p) :
    ∃ r, f_Pl_steer w v nx k = some r ∧ ((∃ p' : Nat, r.1.toInt = (p' : Int) ∧ cN n T (kk + 1) p') ∧ cS r.2 (gSh_harm v) (stI T E R n kk s) ∧ r.2 12 = gSh_ints v 12) := by
  obtain ⟨h1, h2, h3⟩ := hN
  have h20 := hP.1
  have c1 : ¬ nx < 0 := by rw [Int32.lt_iff_toInt_lt, hn]; show ¬ (p : Int) < 0; omega
  unfold f_Pl_steer
  rw [if_neg c1]
  by_cases d : gPl_ints w 0 ≤ nx
  · have d' : n = p := by
      have : (n : Int) ≤ p := by rw [← hw.1, ← hn]; exact Int32.le_iff_toInt_le.mp d
      omega
    rw [if_pos d]
    refine ⟨_, rfl, ⟨p, hn, h1, fun i hi => by have := h2 i hi; omega, fun i h4 h5 => absurd h5 (by omega)⟩, ?_, rfl⟩
    rw [stI_none s n (fun i hi => by have := h2 i (by omega); omega)]
    exact hS
  · have d' : p < n := by
      have : ¬ (n : Int) ≤ p := fun g => d (Int32.le_iff_toInt_le.mpr (by rw [hw.1, hn]; exact g))
      omega
    have c3 : ¬ (20 : Int32) ≤ nx := lt_lit hn (N := 20) rfl (by omega)
    have hin : inb nx 20 = true := inb_ok (by omega) (by omega)
    have hix : ix nx = p := ix_eq hn
    have hp := hw.2 p d'
    rw [if_neg d, if_neg c3, if_pos hin, hix]
    by_cases e : gPl_seconds w p = k
    · have e' : T p = kk := by rw [← hp.1, e, hk]
      rw [if_pos e, if_pos hin, if_pos hin]
      refine ⟨_, rfl, ⟨p + 1, toInt_succ hn (by omega), by omega, fun i hi => ?_, fun i h4 h5 => ?_⟩, ?_, ?_⟩
      · by_cases g : i = p
        · subst g; omega
        · have := h2 i (by omega); omega
      · have := hP.2.2 p i (by omega) h5; omega
      · rw [stI_one s n p d' e' (fun i hi hne => by
          rcases Nat.lt_or_gt_of_ne hne with g | g
          · have := hP.2.2 i p g d'; omega
          · have := hP.2.2 p i g hi; omega)]
        obtain ⟨c0, c1, c2, c3, c4, c5, c6, c7, c8, c9, c10, c11, c12⟩ := hS
        refine ⟨?_, ?_, ?_, ?_, ?_, ?_, ?_, ?_, ?_, ?_, ?_, ?_, ?_⟩ <;> (try simp (disch := decide) only [upd_eq, upd_ne, us_eq, us_ne])
        · exact c0
        · exact c1
        · exact c2
        · exact c3
        · exact c4
        · exact c5
        · exact hp.2.1
        · exact hp.2.2
        · exact c8
        · exact c9
        · exact c10
        · exact c11
        · exact c12
      · simp (disch := decide) only [upd_ne]
    · have e' : T p ≠ kk := fun g => e (Int32.toInt_inj.mp (by rw [hp.1, hk, g]))
      rw [if_neg e]
      have hgt : ∀ i, p ≤ i → i < n → kk + 1 ≤ T i := by
        intro i h4 h5
        have := h3 p (by omega) d'
        by_cases g : i = p
        · subst g; omega
        · have := hP.2.2 p i (by omega) h5; omega
      refine ⟨_, rfl, ⟨p, hn, h1, fun i hi => by have := h2 i hi; omega, hgt⟩, ?_, rfl⟩
      rw [stI_none s n (fun i hi => by
        rcases Nat.lt_or_ge i p with g | g
        · have := h2 i g; omega
        · have := hgt i g hi; omega)]
      exact hS
theorem m_steer {m : tMo} {n : Nat} {T E R s : Nat → Int} (hP : PB n T E R) (hw : mP (gMo_ints m) (gMo_atRow m) n T E R) (hS : mS (gMo_ship m) s) {k : Int32} {kk : Int} (hk : k.toInt = kk) : ∃ r, f_Mo_steer m k = some r ∧ mS r (stI T E R n kk s) := by
  have h20 := hP.1
  unfold f_Mo_steer
  have loop : ∃ e, lp (fB_Mo_steer_2 m k) LF (0, gMo_ship m) = some e ∧ mS e.2 (stI T E R n kk s) := by
    refine lp_inv (N := n) (I := fun i t => t.1.toInt = (i : Int) ∧ mS t.2 (stI T E R i kk s)) (by omega) ?_ ?_ (i := 0) (by omega) ⟨rfl, hS⟩
    · rintro i hi ⟨j, f⟩ ih ⟨a0, a1⟩ go
      have a0 : j.toInt = (i : Int) := a0
      have a1 : mS f (stI T E R i kk s) := a1
      have js := toInt_succ a0 (by omega)
      have j3 := (rp.lit 3 3 (a := 3) rfl rfl).mul (rp.of 20 a0 (by omega) (by omega)) (by decide)
      have j3a := j3.add (rp.lit 1 1 (a := 1) rfl rfl) (by decide)
      have j3b := j3.add (rp.lit 2 2 (a := 2) rfl rfl) (by decide)
      have e0 := j3.1
      have e1 := j3a.1
      have e2 := j3b.1
      have i0 : ix (3 * j) = 3 * i := ix_eq (by omega)
      have i1 : ix (3 * j + 1) = 3 * i + 1 := ix_eq (by omega)
      have i2 : ix (3 * j + 2) = 3 * i + 2 := ix_eq (by omega)
      have b0 : inb (3 * j) 60 = true := inb_ok (by omega) (by omega)
      have b1 : inb (3 * j + 1) 60 = true := inb_ok (by omega) (by omega)
      have b2 : inb (3 * j + 2) 60 = true := inb_ok (by omega) (by omega)
      have hwi := hw.2 i hi
      simp only [fB_Mo_steer_2, if_pos b0, if_pos b1, if_pos b2, i0, i1, i2]
      rw [if_neg (lt_lit a0 hw.1 hi)]
      by_cases d : gMo_atRow m (3 * i) = k
      · have d' : T i = kk := by rw [← hwi.1, d, hk]
        rw [if_pos d]
        refine zlet_ex fun z10 h10 => ?_
        refine zlet_ex fun z12 h12 => ?_
        refine go _ ⟨js, ?_⟩
        unfold stI
        rw [if_pos d']
        generalize stI T E R i kk s = t at a1
        have k10 : z10.toInt = E i := by rw [h10, Int32.toInt_toInt64]; exact hwi.2.1
        have k12 : z12.toInt = R i := by rw [h12, Int32.toInt_toInt64]; exact hwi.2.2
        obtain ⟨c0, c1, c2, c3, c4, c5, c6, c7, c8, c9, c10, c11, c12⟩ := a1
        refine ⟨?_, ?_, ?_, ?_, ?_, ?_, ?_, ?_, ?_, ?_, ?_, ?_, ?_⟩ <;> (try simp (disch := decide) only [updL_eq, updL_ne, us_eq, us_ne])
        · exact c0
        · exact c1
        · exact c2
        · exact c3
        · exact c4
        · exact c5
        · exact k10
        · exact k12
        · exact c8
        · exact c9
        · exact c10
        · exact c11
        · exact c12
      · have d' : ¬ T i = kk := fun g => d (Int32.toInt_inj.mp (by rw [hwi.1, hk, g]))
        rw [if_neg d]
        refine go _ ⟨js, ?_⟩
        unfold stI
        rw [if_neg d']; exact a1
    · rintro ⟨j, f⟩ ih ⟨a0, a1⟩
      have a0 : j.toInt = (n : Int) := a0
      simp only [fB_Mo_steer_2]
      rw [if_pos (ge_lit a0 hw.1 (by omega))]
      exact ⟨_, rfl, a1⟩
  exact bind_ex' loop (fun q2 h2 => ⟨_, rfl, h2⟩)
/-! seconds one after the other; f: what is done ahead of the k-th -/
noncomputable def runI (q px ps : Nat → Int) (f : Nat → (Nat → Int) → Nat → Int) (s L : Nat → Int) : Nat → (Nat → Int) × (Nat → Int) × Int
  | 0 => (s, L, 0)
  | k + 1 => (shipI q px ps (f k (runI q px ps f s L k).1) (runI q px ps f s L k).2.1, restI q px ps (f k (runI q px ps f s L k).1) (runI q px ps f s L k).2.1, (runI q px ps f s L k).2.2 + partedI q px ps (f k (runI q px ps f s L k).1) (runI q px ps f s L k).2.1 6)
theorem partedI_b (q px ps s L : Nat → Int) (l : Nat) : 0 ≤ partedI q px ps s L l ∧ partedI q px ps s L l ≤ (l : Int) := by
  induction l with
  | zero => exact ⟨Int.le_refl _, Int.le_refl _⟩
  | succ l ih =>
    unfold partedI
    rcases goneI_01 q px ps s L l with h | h <;> rw [h] <;> omega
theorem runI_b {q px ps s L : Nat → Int} {f : Nat → (Nat → Int) → Nat → Int} {c : Int} (hB : QB q px ps) (hf : ∀ k c s, RB c s → RB c (f k s)) (hR : RB c s) (hL : LB q L) (k : Nat) : RB (c + k) (runI q px ps f s L k).1 ∧ LB q (runI q px ps f s L k).2.1 ∧ 0 ≤ (runI q px ps f s L k).2.2 ∧ (runI q px ps f s L k).2.2 ≤ 6 * (k : Int) := by
  induction k with
  | zero => exact ⟨by rw [show c + ((0 : Nat) : Int) = c by omega]; exact hR, hL, Int.le_refl _, Int.le_refl _⟩
  | succ k ih =>
    obtain ⟨i1, i2, i3, i4⟩ := ih
    unfold runI
    refine ⟨?_, restI_LB i2, ?_⟩
    · have := shipI_b (L := (runI q px ps f s L k).2.1) hB (hf k _ _ i1)
      rw [show c + ((k + 1 : Nat) : Int) = c + k + 1 by omega]; exact this
    · have := partedI_b q px ps (f k (runI q px ps f s L k).1) (runI q px ps f s L k).2.1 6
      simp only; omega
/-- harm never falls -/
theorem shipI_harm {q px ps s L : Nat → Int} {c : Int} (hB : QB q px ps) (hR : RB c s) : s 10 ≤ shipI q px ps s L 10 := by
  have b1 := moveI_b hR.1 (gainI q px ps s L 6)
  have m10 : moveI s (gainI q px ps s L 6) 10 = s 10 := by unfold moveI; simp (disch := decide) only [us_ne]
  have kn : ∀ {X Y c ch ck : Int} (t : Nat → Int) (p : Int), SB X Y c ch ck t → t 10 ≤ knockI q t p 10 := by
    intro X Y c ch ck t p hb
    have m4 : 0 ≤ (hitI q t p * hitI q t p * q 3).tdiv 10 := Int.tdiv_nonneg (Int.mul_nonneg (zsq_nonneg _) (by have := hB.2.2.1; omega)) (by decide)
    unfold knockI
    split
    · unfold knock2 knock1
      split <;> split <;> (simp (disch := decide) only [us_eq, us_ne]; omega)
    · omega
  unfold shipI
  have b2 := knockI_b hB b1 (by decide) (p := 100) (by decide) (by decide)
  have b3 := knockI_b hB b2 (by decide) (p := -100) (by decide) (by decide)
  have h1 := kn _ 100 b1
  have h2 := kn _ (-100) b2
  rw [m10] at h1
  generalize knockI q (moveI s (gainI q px ps s L 6)) 100 = s2 at *
  generalize knockI q s2 (-100) = s3 at *
  have h3 : s3 10 ≤ meet1 q s3 10 := by
    have e := paceSq_b hB (x := s3 3) (by have := b3.2.2.2.1; omega) (by have := b3.2.2.2.1; omega)
    unfold meet1
    split
    · simp (disch := decide) only [us_eq, us_ne]; split <;> omega
    · omega
  have b4 := meet1_b hB b3
  generalize meet1 q s3 = s4 at *
  have h4 : s4 10 ≤ meet2 q s4 10 := by
    have e := paceSq_b hB (x := s4 3) (by have := b4.2.2.2.1; omega) (by have := b4.2.2.2.1; omega)
    unfold meet2
    split
    · simp (disch := decide) only [us_eq, us_ne]; split <;> omega
    · omega
  generalize meet2 q s4 = s5 at *
  have h5 : capI s5 10 = s5 10 := by
    unfold capI
    split
    · simp (disch := decide) only [us_ne]
    · rfl
  omega
theorem shipI_67 (q px ps s L : Nat → Int) : shipI q px ps s L 6 = s 6 ∧ shipI q px ps s L 7 = s 7 := by
  have kn : ∀ (t : Nat → Int) (p : Int), knockI q t p 6 = t 6 ∧ knockI q t p 7 = t 7 := by
    intro t p
    unfold knockI
    split
    · unfold knock2 knock1
      split <;> split <;> (refine ⟨?_, ?_⟩ <;> simp (disch := decide) only [us_eq, us_ne])
    · exact ⟨rfl, rfl⟩
  have m1 : ∀ t : Nat → Int, meet1 q t 6 = t 6 ∧ meet1 q t 7 = t 7 := by
    intro t; unfold meet1; split
    · refine ⟨?_, ?_⟩ <;> simp (disch := decide) only [us_ne]
    · exact ⟨rfl, rfl⟩
  have m2 : ∀ t : Nat → Int, meet2 q t 6 = t 6 ∧ meet2 q t 7 = t 7 := by
    intro t; unfold meet2; split
    · refine ⟨?_, ?_⟩ <;> simp (disch := decide) only [us_ne]
    · exact ⟨rfl, rfl⟩
  have mc : ∀ t : Nat → Int, capI t 6 = t 6 ∧ capI t 7 = t 7 := by
    intro t; unfold capI; split
    · refine ⟨?_, ?_⟩ <;> simp (disch := decide) only [us_ne]
    · exact ⟨rfl, rfl⟩
  have mm : moveI s (gainI q px ps s L 6) 6 = s 6 ∧ moveI s (gainI q px ps s L 6) 7 = s 7 := by
    unfold moveI; refine ⟨?_, ?_⟩ <;> simp (disch := decide) only [us_ne]
  unfold shipI
  rw [(mc _).1, (mc _).2, (m2 _).1, (m2 _).2, (m1 _).1, (m1 _).2, (kn _ _).1, (kn _ _).2, (kn _ _).1, (kn _ _).2]
  exact mm
theorem runI_harm {q px ps s L : Nat → Int} {f : Nat → (Nat → Int) → Nat → Int} {c : Int} (hB : QB q px ps) (hf : ∀ k c s, RB c s → RB c (f k s)) (hf10 : ∀ k s, f k s 10 = s 10) (hR : RB c s) (hL : LB q L) (k j : Nat) : (runI q px ps f s L k).1 10 ≤ (runI q px ps f s L (k + j)).1 10 := by
  induction j with
  | zero => exact Int.le_refl _
  | succ j ih =>
    have b := (runI_b hB hf hR hL (k + j)).1
    have h := shipI_harm (L := (runI q px ps f s L (k + j)).2.1) hB (hf (k + j) _ _ b)
    rw [hf10] at h
    exact Int.le_trans ih (show _ ≤ (runI q px ps f s L (k + j + 1)).1 10 from h)
