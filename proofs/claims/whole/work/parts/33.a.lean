/-! THE PURE SIDE 26: nights -/
def tb (a : Int32) (k : Nat) : Bool := a.toBitVec.getLsbD k
theorem tb_or (a b : Int32) (k : Nat) : tb (a ||| b) k = (tb a k || tb b k) := by
  unfold tb
  rw [Int32.toBitVec_or, BitVec.getLsbD_or]
theorem tb_zero (k : Nat) : tb 0 k = false := by
  unfold tb
  show (0#32).getLsbD k = false
  exact BitVec.getLsbD_zero
theorem tb_one_aux : ∀ j k : Fin 24, tb (1 <<< (Int32.ofNat j.val &&& 31)) k.val = decide (k.val = j.val) := by decide +kernel
theorem tb_one {j k : Nat} (hj : j < 24) (hk : k < 24) : tb (1 <<< (Int32.ofNat j &&& 31)) k = decide (k = j) := tb_one_aux ⟨j, hj⟩ ⟨k, hk⟩
theorem sh_aux : ∀ k : Fin 24, (Int32.ofNat k.val &&& 31).toBitVec.smod 32#32 = BitVec.ofNat 32 k.val := by decide +kernel
theorem bit_eq (a : Int32) {k : Nat} (hk : k < 24) : ((a >>> (Int32.ofNat k &&& 31)) &&& 1) = if tb a k = true then 1 else 0 := by
  have e : (a >>> (Int32.ofNat k &&& 31)).toBitVec = a.toBitVec.sshiftRight k := by
    show BitVec.sshiftRight' a.toBitVec ((Int32.ofNat k &&& 31).toBitVec.smod 32#32) = _
    rw [sh_aux ⟨k, hk⟩]
    unfold BitVec.sshiftRight'
    rw [BitVec.toNat_ofNat, Nat.mod_eq_of_lt (by omega)]
  have key : ((a >>> (Int32.ofNat k &&& 31)) &&& 1).toBitVec = if tb a k = true then 1#32 else 0#32 := by
    rw [Int32.toBitVec_and, e]
    refine BitVec.eq_of_getLsbD_eq fun i hi => ?_
    rw [BitVec.getLsbD_and, BitVec.getLsbD_sshiftRight]
    show (_ && (1#32).getLsbD i) = _
    by_cases h0 : i = 0
    · subst h0
      have : ¬ (32 ≤ 0) := by decide
      by_cases t : tb a k = true
      · rw [if_pos t]
        have t' : a.toBitVec.getLsbD k = true := t
        simp [show k < 32 by omega, t']
      · rw [if_neg t]
        have t' : a.toBitVec.getLsbD k = false := by
          have t0 : ¬ a.toBitVec.getLsbD k = true := t
          cases hq : a.toBitVec.getLsbD k
          · rfl
          · exact absurd hq t0
        rw [Nat.add_zero, if_pos (show k < 32 by omega), t', Bool.and_false, Bool.false_and]
        rfl
    · have o : (1#32).getLsbD i = false := by
        rw [BitVec.getLsbD_one]; simp [h0]
      rw [o, Bool.and_false]
      split
      · rw [o]
      · exact BitVec.getLsbD_zero.symm
  refine Int32.toBitVec_inj.mp ?_
  rw [key]
  split <;> rfl
/-! the hours at which a line is told -/
noncomputable def needI (q px s L H : Nat → Int) (l : Nat) (h : Int) (k : Nat) : Int := rootI (wayI q px s (L (4 * l + 1)) (L (4 * l + 2)) * wayI q px s (L (4 * l + 1)) (L (4 * l + 2)) + (h + H k - 300) * (h + H k - 300))
def minI (a b : Int) : Int := if b < a then b else a
def maxI (a b : Int) : Int := if a < b then b else a
/-- least and most so far, ahead of hour k -/
def spanI (N : Nat → Int) : Nat → Int × Int
  | 0 => (0, 0)
  | k + 1 => if k = 0 ∨ 100 < maxI (spanI N k).2 (N k) - minI (spanI N k).1 (N k) then (N k, N k) else (minI (spanI N k).1 (N k), maxI (spanI N k).2 (N k))
def anewI (N : Nat → Int) (k : Nat) : Bool := decide (k = 0 ∨ 100 < maxI (spanI N k).2 (N k) - minI (spanI N k).1 (N k))
def cntA (N : Nat → Int) : Nat → Nat
  | 0 => 0
  | k + 1 => if anewI N k = true then cntA N k + 1 else cntA N k
noncomputable def setA (N : Nat → Int) : Nat → Int32
  | 0 => 0
  | k + 1 => if anewI N k = true then setA N k ||| (1 <<< (Int32.ofNat k &&& 31)) else setA N k
theorem spanI_s (N : Nat → Int) (k : Nat) : spanI N (k + 1) = if anewI N k = true then (N k, N k) else (minI (spanI N k).1 (N k), maxI (spanI N k).2 (N k)) := by
  unfold anewI
  by_cases h : k = 0 ∨ 100 < maxI (spanI N k).2 (N k) - minI (spanI N k).1 (N k)
  · rw [if_pos (decide_eq_true h)]; exact if_pos h
  · rw [if_neg (fun g => h (of_decide_eq_true g))]; exact if_neg h
theorem cntA_le (N : Nat → Int) (k : Nat) : cntA N k ≤ k := by
  induction k with
  | zero => exact Nat.le_refl _
  | succ k ih => unfold cntA; split <;> omega
theorem cntA_mono (N : Nat → Int) (k j : Nat) : cntA N k ≤ cntA N (k + j) := by
  induction j with
  | zero => exact Nat.le_refl _
  | succ j ih =>
    have e : cntA N (k + (j + 1)) = if anewI N (k + j) = true then cntA N (k + j) + 1 else cntA N (k + j) := rfl
    rw [e]
    split <;> omega
theorem cntA_pos (N : Nat → Int) (k : Nat) : 1 ≤ cntA N (k + 1) := by
  have := cntA_mono N 1 k
  have e : cntA N 1 = 1 := rfl
  rw [Nat.add_comm] at this
  omega
theorem setA_bit (N : Nat → Int) (n : Nat) (hn : n ≤ 24) (k : Nat) (hk : k < 24) : tb (setA N n) k = (decide (k < n) && anewI N k) := by
  induction n with
  | zero => simp [setA, tb_zero]
  | succ n ih =>
    have ih := ih (by omega)
    unfold setA
    by_cases a : anewI N n = true
    · rw [if_pos a, tb_or, ih, tb_one (by omega) hk]
      by_cases e : k = n
      · subst e; simp [a]
      · by_cases g : k < n
        · simp [g, e, show k < n + 1 by omega]
        · simp [g, e, show ¬ k < n + 1 by omega]
    · rw [if_neg a, ih]
      by_cases e : k = n
      · subst e
        have : anewI N k = false := by simpa using a
        simp [this]
      · by_cases g : k < n
        · simp [g, show k < n + 1 by omega]
        · simp [g, show ¬ k < n + 1 by omega]
/-- no hour told between: the set is the same -/
theorem setA_same (N : Nat → Int) {k m : Nat} (hkm : k ≤ m) (h : cntA N k = cntA N m) : setA N k = setA N m := by
  obtain ⟨d, rfl⟩ := Nat.le.dest hkm
  clear hkm
  induction d with
  | zero => rfl
  | succ d ih =>
    have m1 := cntA_mono N k d
    have e : cntA N (k + (d + 1)) = if anewI N (k + d) = true then cntA N (k + d) + 1 else cntA N (k + d) := rfl
    by_cases a : anewI N (k + d) = true
    · rw [if_pos a] at e; omega
    · rw [if_neg a] at e
      have e2 : setA N (k + (d + 1)) = if anewI N (k + d) = true then setA N (k + d) ||| (1 <<< (Int32.ofNat (k + d) &&& 31)) else setA N (k + d) := rfl
      rw [e2, if_neg a]
      exact ih (by omega)
