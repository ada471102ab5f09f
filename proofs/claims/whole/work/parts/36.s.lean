/-! THE PURE SIDE 55: an at, the reference -/
section
variable {n k c : Nat} {T : Nat → Int} {g : Nat → Int32}
theorem nfT_f1 (T : Nat → Int) (n k c : Nat) (tak : Bool) : nfT T n k c tak 1 = if nF T n k (cLo c 0 (nV T n k)) (hiT c 0) = 0 then (if tak = true then some (4, nA T n k) else none) else some (nF T n k (cLo c 0 (nV T n k)) (hiT c 0), nA T n k) := by
  have st := nfT_st (T := T) (n := n) (k := k) (c := c) (tak := tak) (N := 0) rfl
  have st : nfT T n k c tak 1 = if nF T n k (cLo c 0 (nV T n k)) (hiT c 0) = 0 then (if 0 = 0 ∧ tak = true then some (4, nA T n k) else none) else some (nF T n k (cLo c 0 (nV T n k)) (hiT c 0), nA T n k) := st
  rw [st]
  cases tak <;> simp
/-- taken: the fault 4 in place of none -/
theorem stg_tak {r : Int32 × (Nat → Int32)} {tak : Bool} (hs : stg T n k c false g 1 r) (ht : ¬ tak = true) : stg T n k c tak g 1 r := by
  have : tak = false := by cases tak
                           · rfl
                           · exact absurd rfl ht
  subst this; exact hs
theorem stg_bad {r : Int32 × (Nat → Int32)} {tak : Bool} {y : Int × Nat} (hs : stg T n k c false g 1 r) (hy : nfT T n k c false 1 = some y) : stg T n k c tak g 1 r := by
  have a := nfT_f1 T n k c false
  have b := nfT_f1 T n k c tak
  by_cases f : nF T n k (cLo c 0 (nV T n k)) (hiT c 0) = 0
  · rw [if_pos f] at a
    rw [a] at hy
    cases hy
  · rw [if_neg f] at a b
    refine ⟨hs.1, fun z hz => ?_, fun hz => ?_⟩
    · rw [b] at hz; cases hz
      exact hs.2.1 _ a
    · rw [b] at hz; cases hz
theorem stg_4 {r : Int32 × (Nat → Int32)} {tak : Bool} (hs : stg T n k c false g 1 r) (hy : nfT T n k c false 1 = none) (ht : tak = true) : stg T n k c tak g 1 (4, upd r.2 12 (r.2 17)) := by
  have a := nfT_f1 T n k c false
  have b := nfT_f1 T n k c tak
  obtain ⟨s1, s2, s3⟩ := hs
  obtain ⟨a1, a2, a3, a4⟩ := s3 hy
  have a5 : (r.2 17).toInt = (nA T n k : Int) := (a4 0 rfl).2
  by_cases f : nF T n k (cLo c 0 (nV T n k)) (hiT c 0) = 0
  · rw [if_pos f, if_pos ht] at b
    refine ⟨fun x x1 x2 x3 x4 => ?_, fun z hz => ?_, fun hz => ?_⟩
    · show upd r.2 12 (r.2 17) x = _
      rw [upd_ne _ _ x1]; exact s1 x x1 x2 x3 x4
    · rw [b] at hz; cases hz
      exact ⟨rfl, by show (upd r.2 12 (r.2 17) 12).toInt = _; rw [upd_eq]; exact a5⟩
    · rw [b] at hz; cases hz
  · rw [if_neg f] at a
    rw [a] at hy; cases hy
end
theorem lo_9 : (cLo 9 0 0 = 0 ∧ hiT 9 0 = 999) ∧ (cLo 9 1 0 = 0 ∧ hiT 9 1 = 6) ∧ (cLo 9 2 0 = 0 ∧ hiT 9 2 = 6) := by decide +kernel
