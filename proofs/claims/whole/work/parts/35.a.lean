/-! THE PURE SIDE 30: in which order to let go -/
def inS (S l : Nat) : Bool := S.testBit l
def remS (S l : Nat) : Nat := if S.testBit l = true then S - 2 ^ l else S
def pcS (S : Nat) : Nat := (if S.testBit 0 then 1 else 0) + (if S.testBit 1 then 1 else 0) + (if S.testBit 2 then 1 else 0) + (if S.testBit 3 then 1 else 0) + (if S.testBit 4 then 1 else 0) + (if S.testBit 5 then 1 else 0)
theorem os_in : ∀ S : Fin 64, ∀ l : Fin 6, f_Lg_isIn (Int32.ofNat S.val) (Int32.ofNat l.val) = if inS S.val l.val = true then 1 else 0 := by decide +kernel
theorem os_bit : ∀ S : Fin 64, ∀ l : Fin 6, ((Int32.ofNat S.val >>> (Int32.ofNat l.val &&& 31)) &&& 1) = if inS S.val l.val = true then 1 else 0 := by decide +kernel
theorem os_rem : ∀ S : Fin 64, ∀ l : Fin 6, (Int32.ofNat S.val &&& ((1 <<< (Int32.ofNat l.val &&& 31)) ^^^ (-1))) = Int32.ofNat (remS S.val l.val) := by decide +kernel
theorem os_or : ∀ S : Fin 64, ∀ l : Fin 6, (Int32.ofNat S.val ||| (1 <<< (Int32.ofNat l.val &&& 31))) = Int32.ofNat (S.val ||| 2 ^ l.val) := by decide +kernel
theorem os_sub : ∀ S : Fin 64, ∀ A : Fin 64, decide ((Int32.ofNat S.val &&& Int32.ofNat A.val) = Int32.ofNat S.val) = decide (S.val &&& A.val = S.val) := by decide +kernel
theorem os_sub2 : ∀ S : Fin 64, ∀ A : Fin 64, decide ((Int32.ofNat S.val &&& (Int32.ofNat A.val ^^^ (-1))) = 0) = decide (S.val &&& A.val = S.val) := by decide +kernel
theorem os_remlt : ∀ S : Fin 64, ∀ l : Fin 6, remS S.val l.val < 64 ∧ (inS S.val l.val = true → remS S.val l.val < S.val ∧ pcS (remS S.val l.val) + 1 = pcS S.val) := by decide +kernel
theorem os_remsub : ∀ A : Fin 64, ∀ S : Fin 64, S.val &&& A.val = S.val → ∀ l : Fin 6, remS S.val l.val &&& A.val = remS S.val l.val := by decide +kernel
theorem os_pc0 : ∀ S : Fin 64, (pcS S.val = 0 → S.val = 0) ∧ pcS S.val ≤ 6 ∧ (S.val ≠ 0 → ∃ l : Fin 6, inS S.val l.val = true) := by decide +kernel
theorem os_le : ∀ A : Fin 64, ∀ S : Fin 64, S.val &&& A.val = S.val → S.val ≤ A.val := by decide +kernel
theorem os_orlt : ∀ S : Fin 64, ∀ l : Fin 6, (S.val ||| 2 ^ l.val) < 64 := by decide +kernel
theorem os_orbit : ∀ S : Fin 64, ∀ l k : Fin 6, inS (S.val ||| 2 ^ l.val) k.val = (inS S.val k.val || decide (k.val = l.val)) := by decide +kernel
theorem os_insub : ∀ A : Fin 64, ∀ S : Fin 64, S.val &&& A.val = S.val → ∀ l : Fin 6, inS S.val l.val = true → inS A.val l.val = true := by decide +kernel
/-- the lines that are fast, as a set, of those below k -/
def allS (L : Nat → Int) : Nat → Nat
  | 0 => 0
  | k + 1 => if L (4 * k) = 1 then allS L k ||| 2 ^ k else allS L k
theorem allS_lt (L : Nat → Int) (k : Nat) (hk : k ≤ 6) : allS L k < 64 := by
  induction k with
  | zero => exact (by decide : (0 : Nat) < 64)
  | succ k ih =>
    have ih := ih (by omega)
    unfold allS
    split
    · exact os_orlt ⟨_, ih⟩ ⟨k, by omega⟩
    · exact ih
theorem allS_in (L : Nat → Int) (k : Nat) (hk : k ≤ 6) (l : Nat) (hl : l < 6) : inS (allS L k) l = (decide (l < k) && decide (L (4 * l) = 1)) := by
  induction k with
  | zero => simp [allS, inS]
  | succ k ih =>
    have ih := ih (by omega)
    unfold allS
    by_cases f : L (4 * k) = 1
    · rw [if_pos f, os_orbit ⟨_, allS_lt L k (by omega)⟩ ⟨k, by omega⟩ ⟨l, hl⟩]
      show (inS (allS L k) l || decide (l = k)) = _
      rw [ih]
      by_cases e : l = k
      · subst e; simp [f]
      · by_cases g : l < k
        · simp [g, e, show l < k + 1 by omega]
        · simp [g, e, show ¬ l < k + 1 by omega]
    · rw [if_neg f, ih]
      by_cases e : l = k
      · subst e; simp [f]
      · by_cases g : l < k
        · simp [g, show l < k + 1 by omega]
        · simp [g, show ¬ l < k + 1 by omega]
/-! shares, strains, the least greatest -/
def shareI (q s L : Nat → Int) (l : Nat) : Int := 1 + (offI q s (L (4 * l + 1))).tdiv 10
def sumI (q s L : Nat → Int) (S : Nat) : Nat → Int
  | 0 => 0
  | k + 1 => sumI q s L S k + (if inS S k = true then shareI q s L k else 0)
def blowI (q : Nat → Int) : Int := q 10 * q 3 * 10
def strainI (q ps s L : Nat → Int) (S l : Nat) : Int := ((blowI q * shareI q s L l).tdiv (sumI q s L S 6) * 100).tdiv (ps (L (4 * l + 2)).toNat)
def mostI (q ps s L : Nat → Int) (S : Nat) : Nat → Int
  | 0 => 0
  | k + 1 => if inS S k = true then maxI (mostI q ps s L S k) (strainI q ps s L S k) else mostI q ps s L S k
/-- the least of f behind one that goes; -1: none yet -/
def afterI (f : Nat → Int) (S : Nat) : Nat → Int
  | 0 => -1
  | k + 1 => if inS S k = true ∧ (afterI f S k = -1 ∨ f (remS S k) < afterI f S k) then f (remS S k) else afterI f S k
def bestI (q ps s L : Nat → Int) (A : Nat) : Nat → Nat → Int
  | 0 => fun _ => 0
  | k + 1 => if (k + 1) &&& A = k + 1 then us (bestI q ps s L A k) (k + 1) (maxI (mostI q ps s L (k + 1) 6) (afterI (bestI q ps s L A k) (k + 1) 6)) else bestI q ps s L A k
theorem shareI_b {q px ps s L : Nat → Int} {c : Int} (hB : QB q px ps) (hR : RB c s) (hL : LB q L) {l : Nat} (hl : l < 6) (hf : L (4 * l) = 1) : 1 ≤ shareI q s L l ∧ shareI q s L l ≤ 4354 := by
  have lb := hL_of hL hl hf
  have t := hB.tiltb (p := L (4 * l + 1)) (a := s 2) (by omega) (by omega) (by have := hR.1.2.2.1; omega) (by have := hR.1.2.2.1; omega)
  have o := offI_b (q := q) (s := s) (p := L (4 * l + 1))
  have ou : offI q s (L (4 * l + 1)) ≤ 43534 := by
    have := hR.1.2.1
    unfold offI freeI; split <;> omega
  have e : (offI q s (L (4 * l + 1))).tdiv 10 = offI q s (L (4 * l + 1)) / 10 := Int.tdiv_eq_ediv_of_nonneg o
  unfold shareI
  rw [e]; omega
/-- S holds only lines that are fast -/
def subF (L : Nat → Int) (S : Nat) : Prop := ∀ l, l < 6 → inS S l = true → L (4 * l) = 1
theorem sumI_b {q px ps s L : Nat → Int} {c : Int} (hB : QB q px ps) (hR : RB c s) (hL : LB q L) {S : Nat} (hS : subF L S) (k : Nat) (hk : k ≤ 6) : 0 ≤ sumI q s L S k ∧ sumI q s L S k ≤ 4354 * (k : Int) ∧ ∀ l, l < k → inS S l = true → shareI q s L l ≤ sumI q s L S k := by
  induction k with
  | zero => exact ⟨Int.le_refl _, Int.le_refl _, fun l h => absurd h (by omega)⟩
  | succ k ih =>
    obtain ⟨i1, i2, i3⟩ := ih (by omega)
    unfold sumI
    by_cases b : inS S k = true
    · have sb := shareI_b hB hR hL (l := k) (by omega) (hS k (by omega) b)
      rw [if_pos b]
      refine ⟨by omega, by omega, fun l hl hi => ?_⟩
      by_cases e : l = k
      · subst e; omega
      · have := i3 l (by omega) hi; omega
    · rw [if_neg b]
      refine ⟨by omega, by omega, fun l hl hi => ?_⟩
      by_cases e : l = k
      · subst e; exact absurd hi b
      · have := i3 l (by omega) hi; omega
theorem blowI_b {q px ps : Nat → Int} (hB : QB q px ps) : 0 ≤ blowI q ∧ blowI q ≤ 98010 := by
  obtain ⟨-, -, b3, -, -, -, -, -, -, b10, -⟩ := hB
  have m := zmulb (x := q 10) (y := q 3) (A := 99) (B := 99) (by omega) (by omega) (by omega) (by omega)
  have := Int.mul_nonneg (a := q 10) (b := q 3) (by omega) (by omega)
  unfold blowI; omega
theorem quotI_b {q px ps s L : Nat → Int} {c : Int} (hB : QB q px ps) (hR : RB c s) (hL : LB q L) {S : Nat} (hS : subF L S) {l : Nat} (hl : l < 6) (hi : inS S l = true) : 0 ≤ (blowI q * shareI q s L l).tdiv (sumI q s L S 6) ∧ (blowI q * shareI q s L l).tdiv (sumI q s L S 6) ≤ 98010 ∧ 0 < sumI q s L S 6 ∧ sumI q s L S 6 ≤ 26124 := by
  have sb := shareI_b hB hR hL hl (hS l hl hi)
  obtain ⟨s1, s2, s3⟩ := sumI_b hB hR hL hS 6 (by decide)
  have s4 := s3 l hl hi
  have bb := blowI_b hB
  have z := zfrac (a := blowI q) (w := shareI q s L l) (f := sumI q s L S 6) (A := 98010) (by omega) (by omega) (by omega) (by omega) (by omega)
  exact ⟨Int.tdiv_nonneg (Int.mul_nonneg bb.1 (by omega)) (by omega), z.2, by omega, by omega⟩
theorem strainI_b {q px ps s L : Nat → Int} {c : Int} (hB : QB q px ps) (hR : RB c s) (hL : LB q L) {S : Nat} (hS : subF L S) {l : Nat} (hl : l < 6) (hi : inS S l = true) : 0 ≤ strainI q ps s L S l ∧ strainI q ps s L S l ≤ 9801000 := by
  obtain ⟨a1, a2, a3, a4⟩ := quotI_b hB hR hL hS hl hi
  have lb := hL_of hL hl (hS l hl hi)
  have pb := (hB.2.2.2.2.2.2.2.2.2.2.2.2.2 (L (4 * l + 2)).toNat (by omega)).2
  have z := zdivb (x := (blowI q * shareI q s L l).tdiv (sumI q s L S 6) * 100) (y := ps (L (4 * l + 2)).toNat) (A := 9801000) (by omega) (by omega)
  unfold strainI
  exact ⟨Int.tdiv_nonneg (by omega) (by omega), z.2⟩
theorem mostI_b {q px ps s L : Nat → Int} {c : Int} (hB : QB q px ps) (hR : RB c s) (hL : LB q L) {S : Nat} (hS : subF L S) (k : Nat) (hk : k ≤ 6) : 0 ≤ mostI q ps s L S k ∧ mostI q ps s L S k ≤ 9801000 := by
  induction k with
  | zero => exact ⟨Int.le_refl _, (by decide : (0 : Int) ≤ 9801000)⟩
  | succ k ih =>
    have ih := ih (by omega)
    unfold mostI
    by_cases b : inS S k = true
    · have sb := strainI_b hB hR hL hS (l := k) (by omega) b
      rw [if_pos b]; unfold maxI; split <;> omega
    · rw [if_neg b]; exact ih
theorem afterI_b {f : Nat → Int} {S : Nat} (hf : ∀ l, l < 6 → inS S l = true → 0 ≤ f (remS S l) ∧ f (remS S l) ≤ 9801000) (k : Nat) (hk : k ≤ 6) : -1 ≤ afterI f S k ∧ afterI f S k ≤ 9801000 := by
  induction k with
  | zero => exact ⟨Int.le_refl _, (by decide : (-1 : Int) ≤ 9801000)⟩
  | succ k ih =>
    have ih := ih (by omega)
    unfold afterI
    split
    · rename_i g
      have := hf k (by omega) g.1; omega
    · exact ih
/-- some line of S stands behind the least -/
theorem afterI_ex {f : Nat → Int} {S : Nat} (hf : ∀ l, l < 6 → inS S l = true → 0 ≤ f (remS S l) ∧ f (remS S l) ≤ 9801000) (k : Nat) (hk : k ≤ 6) (l : Nat) (hl : l < k) (hi : inS S l = true) : ∃ j, j < k ∧ inS S j = true ∧ f (remS S j) = afterI f S k := by
  induction k generalizing l with
  | zero => omega
  | succ k ih =>
    have e : afterI f S (k + 1) = if inS S k = true ∧ (afterI f S k = -1 ∨ f (remS S k) < afterI f S k) then f (remS S k) else afterI f S k := rfl
    by_cases g : inS S k = true ∧ (afterI f S k = -1 ∨ f (remS S k) < afterI f S k)
    · rw [if_pos g] at e
      exact ⟨k, by omega, g.1, e.symm⟩
    · rw [if_neg g] at e
      rw [e]
      by_cases b : l = k
      · subst b
        have hlt : ∃ j, j < l ∧ inS S j = true := by
          refine Classical.byContradiction fun no => ?_
          have none : ∀ i, i ≤ l → afterI f S i = -1 := by
            intro i hi'
            induction i with
            | zero => rfl
            | succ i ihi =>
              have e2 : afterI f S (i + 1) = if inS S i = true ∧ (afterI f S i = -1 ∨ f (remS S i) < afterI f S i) then f (remS S i) else afterI f S i := rfl
              rw [e2, if_neg (fun x => no ⟨i, by omega, x.1⟩)]
              exact ihi (by omega)
          exact g ⟨hi, Or.inl (none l (Nat.le_refl _))⟩
        obtain ⟨j, j1, j2⟩ := hlt
        obtain ⟨j', k1, k2, k3⟩ := ih (by omega) j j1 j2
        exact ⟨j', by omega, k2, k3⟩
      · obtain ⟨j', k1, k2, k3⟩ := ih (by omega) l (by omega) hi
        exact ⟨j', by omega, k2, k3⟩
