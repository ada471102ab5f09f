/-! THE PURE SIDE 2: a second in whole numbers; what of class and reference stands for it -/
def us (s : Nat → Int) (k : Nat) (v : Int) : Nat → Int := fun j => if j = k then v else s j
theorem us_eq (s : Nat → Int) (k : Nat) (v : Int) : us s k v k = v := if_pos rfl
theorem us_ne (s : Nat → Int) {k j : Nat} (v : Int) (h : j ≠ k) : us s k v j = s j := if_neg h
def armI (q : Nat → Int) (p : Int) : Int := ((q 2).tdiv 2 * p).tdiv 100
def freeI (q s : Nat → Int) (p : Int) : Int := s 1 - (armI q p * s 2).tdiv 57296
def offI (q s : Nat → Int) (p : Int) : Int := if freeI q s p < 0 then 0 else freeI q s p
def wayI (q px s : Nat → Int) (p k : Int) : Int := px k.toNat - (s 0 + armI q p)
noncomputable def distI (q px s : Nat → Int) (p k : Int) : Int := rootI (wayI q px s p k * wayI q px s p k + offI q s p * offI q s p)
def pullI (q : Nat → Int) (d n : Int) : Int := if ((d - n) * q 11).tdiv 10 < 0 then 0 else ((d - n) * q 11).tdiv 10
noncomputable def lpullI (q px s L : Nat → Int) (l : Nat) : Int := pullI q (distI q px s (L (4 * l + 1)) (L (4 * l + 2))) (L (4 * l + 3))
/-- 1: line l is fast and parts -/
noncomputable def goneI (q px ps s L : Nat → Int) (l : Nat) : Int := if L (4 * l) = 1 then (if ps (L (4 * l + 2)).toNat < lpullI q px s L l then 1 else 0) else 0
noncomputable def restI (q px ps s L : Nat → Int) : Nat → Int := fun k => if k % 4 = 0 ∧ goneI q px ps s L (k / 4) = 1 then 0 else L k
noncomputable def partedI (q px ps s L : Nat → Int) : Nat → Int
  | 0 => 0
  | l + 1 => partedI q px ps s L l + goneI q px ps s L l
def gain0 (q s : Nat → Int) : Int × Int × Int := (s 6 * q 4 - (s 3 * q 7).tdiv 100, (s 8 * 10).tdiv (q 3) - q 10 - (s 4 * q 8).tdiv 100, ((s 7 * s 3).tdiv 100 * q 6).tdiv (q 3) - (s 5 * q 9).tdiv 100 + (if s 6 < 0 then (s 6 * q 5).tdiv (q 3) else 0))
noncomputable def farI (q px s L : Nat → Int) (l : Nat) : Int := if 1 < distI q px s (L (4 * l + 1)) (L (4 * l + 2)) then distI q px s (L (4 * l + 1)) (L (4 * l + 2)) else 1
noncomputable def inI (q px s L : Nat → Int) (l : Nat) : Int := (lpullI q px s L l * offI q s (L (4 * l + 1))).tdiv (farI q px s L l)
noncomputable def gainI (q px ps s L : Nat → Int) : Nat → Int × Int × Int
  | 0 => gain0 q s
  | l + 1 => if L (4 * l) = 1 ∧ goneI q px ps s L l = 0 then
      ((gainI q px ps s L l).1 + ((lpullI q px s L l * wayI q px s (L (4 * l + 1)) (L (4 * l + 2))).tdiv (farI q px s L l) * 10).tdiv (q 3),
       (gainI q px ps s L l).2.1 + (inI q px s L l * 10).tdiv (q 3),
       (gainI q px ps s L l).2.2 + ((inI q px s L l * armI q (L (4 * l + 1))).tdiv (q 3)).tdiv 10)
    else gainI q px ps s L l
def heldI (v m : Int) : Int := if m < v then m else if v < -m then -m else v
def moveI (s : Nat → Int) (g : Int × Int × Int) : Nat → Int :=
  us (us (us (us (us (us (us s 3 (heldI (s 3 + g.1) 50000)) 4 (heldI (s 4 + g.2.1) 50000)) 5 (heldI (s 5 + g.2.2) 20000)) 0 (s 0 + (heldI (s 3 + g.1) 50000).tdiv 100))
    1 (s 1 - (heldI (s 4 + g.2.1) 50000).tdiv 100 - ((heldI (s 3 + g.1) 50000).tdiv 100 * s 2).tdiv 57296)) 2 (heldI (s 2 + heldI (s 5 + g.2.2) 20000) 45000)) 9 (s 9 + 1)
def hitI (q s : Nat → Int) (p : Int) : Int := (s 4 + (s 3 * s 2).tdiv 57296 + (s 5 * armI q p).tdiv 573).tdiv 100
def knock1 (q s : Nat → Int) (v : Int) : Nat → Int := if q 12 < v then us (us s 11 (s 11 + 1)) 10 (s 10 + (v * v * q 3).tdiv 10) else s
def knock2 (s : Nat → Int) (v : Int) : Nat → Int := if 0 < v then us (us s 4 0) 5 (-((s 5).tdiv 3)) else s
def knockI (q s : Nat → Int) (p : Int) : Nat → Int := if freeI q s p < 0 then us (knock2 (knock1 q s (hitI q s p)) (hitI q s p)) 1 (s 1 - freeI q s p) else s
def overI (q s : Nat → Int) : Int := s 0 + armI q 100 - q 1
def underI (q s : Nat → Int) : Int := q 0 - (s 0 + armI q (-100))
def meet1 (q s : Nat → Int) : Nat → Int := if 0 < overI q s then us (us (us s 10 (s 10 + (if 0 < (s 3).tdiv 100 then ((s 3).tdiv 100 * (s 3).tdiv 100 * q 3).tdiv 10 else 0))) 3 0) 0 (s 0 - overI q s) else s
def meet2 (q s : Nat → Int) : Nat → Int := if 0 < underI q s then us (us (us s 10 (s 10 + (if (s 3).tdiv 100 < 0 then ((s 3).tdiv 100 * (s 3).tdiv 100 * q 3).tdiv 10 else 0))) 3 0) 0 (s 0 + underI q s) else s
def capI (s : Nat → Int) : Nat → Int := if 30000 < s 1 then us (us s 1 30000) 4 (if s 4 < 0 then 0 else s 4) else s
noncomputable def shipI (q px ps s L : Nat → Int) : Nat → Int := capI (meet2 q (meet1 q (knockI q (knockI q (moveI s (gainI q px ps s L 6)) 100) (-100))))
/-! what is told of a quay, of a ship at rest, of lines -/
def QB (q px ps : Nat → Int) : Prop := (0 ≤ q 0 ∧ q 0 < q 1 ∧ q 1 ≤ 9999) ∧ (500 ≤ q 2 ∧ q 2 ≤ 9000) ∧ (1 ≤ q 3 ∧ q 3 ≤ 99) ∧ (0 ≤ q 4 ∧ q 4 ≤ 50) ∧ (0 ≤ q 5 ∧ q 5 ≤ 99) ∧ (0 ≤ q 6 ∧ q 6 ≤ 99) ∧ (0 ≤ q 7 ∧ q 7 ≤ 50) ∧ (0 ≤ q 8 ∧ q 8 ≤ 50) ∧ (0 ≤ q 9 ∧ q 9 ≤ 50) ∧ (0 ≤ q 10 ∧ q 10 ≤ 99) ∧ (1 ≤ q 11 ∧ q 11 ≤ 99) ∧ (0 ≤ q 12 ∧ q 12 ≤ 999) ∧ (0 ≤ q 13 ∧ q 13 ≤ 12) ∧ (∀ k : Nat, (k : Int) < q 13 → (0 ≤ px k ∧ px k ≤ 9999) ∧ (1 ≤ ps k ∧ ps k ≤ 999))
/-- bounds within a second: x, y no more than X, Y without sign; c seconds, harm ch, knocks ck at most -/
def SB (X Y c ch ck : Int) (s : Nat → Int) : Prop := (-X ≤ s 0 ∧ s 0 ≤ X) ∧ (-Y ≤ s 1 ∧ s 1 ≤ Y) ∧ (-45000 ≤ s 2 ∧ s 2 ≤ 45000) ∧ (-50000 ≤ s 3 ∧ s 3 ≤ 50000) ∧ (-50000 ≤ s 4 ∧ s 4 ≤ 50000) ∧ (-20000 ≤ s 5 ∧ s 5 ≤ 20000) ∧ (-3 ≤ s 6 ∧ s 6 ≤ 3) ∧ (-3 ≤ s 7 ∧ s 7 ≤ 3) ∧ (0 ≤ s 8 ∧ s 8 ≤ 99) ∧ (0 ≤ s 9 ∧ s 9 ≤ c) ∧ (0 ≤ s 10 ∧ s 10 ≤ ch) ∧ (0 ≤ s 11 ∧ s 11 ≤ ck) ∧ (0 ≤ s 12 ∧ s 12 ≤ c)
/-- a ship between two seconds -/
def RB (c : Int) (s : Nat → Int) : Prop := SB 15000 30000 c (1000000000 * c) (2 * c) s ∧ 0 ≤ s 0 ∧ 0 ≤ s 1
def LB (q L : Nat → Int) : Prop := ∀ l : Nat, l < 6 → L (4 * l) = 0 ∨ (L (4 * l) = 1 ∧ (-100 ≤ L (4 * l + 1) ∧ L (4 * l + 1) ≤ 100) ∧ (0 ≤ L (4 * l + 2) ∧ L (4 * l + 2) < q 13) ∧ (0 ≤ L (4 * l + 3) ∧ L (4 * l + 3) ≤ 60000))
/-! the class's cells, the reference's cells -/
def cQ (w : tQu) (q px ps : Nat → Int) : Prop := (∀ k, k < 14 → (gQu_ints w k).toInt = q k) ∧ (∀ k : Nat, (k : Int) < q 13 → (gQu_places w k).toInt = px k ∧ (gQu_strengths w k).toInt = ps k)
def mQ (i t x z : Nat → Int32) (q px ps : Nat → Int) : Prop := (∀ k, k < 13 → (t k).toInt = q k) ∧ (i 1).toInt = q 13 ∧ (∀ k : Nat, (k : Int) < q 13 → (x k).toInt = px k ∧ (z k).toInt = ps k)
def cS (i : Nat → Int32) (h : Int64) (s : Nat → Int) : Prop := (i 0).toInt = s 0 ∧ (i 1).toInt = s 1 ∧ (i 2).toInt = s 2 ∧ (i 3).toInt = s 3 ∧ (i 4).toInt = s 4 ∧ (i 5).toInt = s 5 ∧ (i 6).toInt = s 6 ∧ (i 7).toInt = s 7 ∧ (i 8).toInt = s 8 ∧ (i 9).toInt = s 9 ∧ h.toInt = s 10 ∧ (i 10).toInt = s 11 ∧ (i 11).toInt = s 12
def mS (f : Nat → Int64) (s : Nat → Int) : Prop := (f 0).toInt = s 0 ∧ (f 1).toInt = s 1 ∧ (f 2).toInt = s 2 ∧ (f 3).toInt = s 3 ∧ (f 4).toInt = s 4 ∧ (f 5).toInt = s 5 ∧ (f 6).toInt = s 6 ∧ (f 7).toInt = s 7 ∧ (f 8).toInt = s 8 ∧ (f 9).toInt = s 9 ∧ (f 10).toInt = s 10 ∧ (f 11).toInt = s 11 ∧ (f 12).toInt = s 12
def cL (f : Nat → Int32) (p o n : Nat → Int32) (L : Nat → Int) : Prop := ∀ l, l < 6 → (f l).toInt = L (4 * l) ∧ (L (4 * l) = 1 → (p l).toInt = L (4 * l + 1) ∧ (o l).toInt = L (4 * l + 2) ∧ (n l).toInt = L (4 * l + 3))
def mL (g : Nat → Int32) (L : Nat → Int) : Prop := ∀ k, k < 24 → (g k).toInt = L k
/-! small facts in whole numbers -/
theorem QB.armb {q px ps : Nat → Int} (hB : QB q px ps) {p : Int} (h1 : -100 ≤ p) (h2 : p ≤ 100) : -4500 ≤ armI q p ∧ armI q p ≤ 4500 := by
  have h := hB.2.1
  have a := zdivk (x := q 2) (A := 9000) (K := 2) (k := 2) rfl (by decide) (by omega) (by omega)
  have b := zmulb (x := (q 2).tdiv 2) (y := p) (A := 4500) (B := 100) (by omega) (by omega) (by omega) (by omega)
  have c := zdivk (x := (q 2).tdiv 2 * p) (A := 4500 * 100) (K := 100) (k := 100) rfl (by decide) b.1 b.2
  exact ⟨by have := c.1; unfold armI; omega, by have := c.2; unfold armI; omega⟩
theorem armI_bow (q : Nat → Int) : armI q 100 = (q 2).tdiv 2 := by
  unfold armI
  exact Int.mul_tdiv_cancel _ (by decide)
theorem armI_stern (q : Nat → Int) : armI q (-100) = -((q 2).tdiv 2) := by
  unfold armI
  rw [Int.mul_neg, Int.neg_tdiv, Int.mul_tdiv_cancel _ (by decide)]
theorem QB.tiltb {q px ps : Nat → Int} (hB : QB q px ps) {p a : Int} (h1 : -100 ≤ p) (h2 : p ≤ 100) (h3 : -45000 ≤ a) (h4 : a ≤ 45000) : -3534 ≤ (armI q p * a).tdiv 57296 ∧ (armI q p * a).tdiv 57296 ≤ 3534 := by
  have h := hB.armb h1 h2
  have b := zmulb (x := armI q p) (y := a) (A := 4500) (B := 45000) (by omega) (by omega) (by omega) (by omega)
  have c := zdivk (x := armI q p * a) (A := 4500 * 45000) (K := 57296) (k := 57296) rfl (by decide) b.1 b.2
  omega
theorem heldI_b (v : Int) {m : Int} (h : 0 ≤ m) : -m ≤ heldI v m ∧ heldI v m ≤ m := by
  unfold heldI
  split
  · omega
  · split <;> omega
theorem offI_b {q s : Nat → Int} {p : Int} : 0 ≤ offI q s p := by
  unfold offI; split <;> omega
theorem distI_nonneg (q px s : Nat → Int) (p k : Int) : 0 ≤ distI q px s p k := rootI_nonneg _
theorem pullI_nonneg (q : Nat → Int) (d n : Int) : 0 ≤ pullI q d n := by
  unfold pullI; split <;> omega
theorem zsum_nonneg (a b : Int) : 0 ≤ a * a + b * b := by
  have := zsq_nonneg a; have := zsq_nonneg b; omega
theorem distI_off (q px s : Nat → Int) (p k : Int) : offI q s p ≤ distI q px s p k := le_rootI offI_b (by have := zsq_nonneg (wayI q px s p k); omega)
theorem distI_way (q px s : Nat → Int) (p k : Int) : -distI q px s p k ≤ wayI q px s p k ∧ wayI q px s p k ≤ distI q px s p k := by
  have h := le_rootI (v := wayI q px s p k * wayI q px s p k + offI q s p * offI q s p) (a := ((wayI q px s p k).natAbs : Int)) (by omega) (by
    have e : (((wayI q px s p k).natAbs * (wayI q px s p k).natAbs : Nat) : Int) = wayI q px s p k * wayI q px s p k := Int.natAbs_mul_self
    have := zsq_nonneg (offI q s p)
    have e2 : ((wayI q px s p k).natAbs : Int) * ((wayI q px s p k).natAbs : Int) = (((wayI q px s p k).natAbs * (wayI q px s p k).natAbs : Nat) : Int) := by push_cast; rfl
    omega)
  have h' : ((wayI q px s p k).natAbs : Int) ≤ distI q px s p k := h
  omega
theorem distI_le {q px s : Nat → Int} {p k : Int} (h1 : -40000 ≤ wayI q px s p k) (h2 : wayI q px s p k ≤ 40000) (h3 : offI q s p ≤ 44000) : distI q px s p k ≤ 60000 := by
  refine rootI_le (zsum_nonneg _ _) (by omega) ?_
  have a := zmulb (x := wayI q px s p k) (y := wayI q px s p k) (A := 40000) (B := 40000) (by omega) (by omega) (by omega) (by omega)
  have h0 := offI_b (q := q) (s := s) (p := p)
  have b := zmulb (x := offI q s p) (y := offI q s p) (A := 44000) (B := 44000) (by omega) (by omega) (by omega) (by omega)
  omega
