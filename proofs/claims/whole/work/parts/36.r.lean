/-! THE PURE SIDE 54: number after number, the reference -/
def stg (T : Nat → Int) (n k c : Nat) (tak : Bool) (g : Nat → Int32) (j : Nat) (w : Int32 × (Nat → Int32)) : Prop := (∀ x, x ≠ 12 → x ≠ 13 → x ≠ 16 → x ≠ 17 → w.2 x = g x) ∧ (∀ y, nfT T n k c tak j = some y → w.1.toInt = y.1 ∧ (w.2 12).toInt = (y.2 : Int)) ∧ (nfT T n k c tak j = none → w.1 = 0 ∧ w.2 12 = g 12 ∧ (w.2 13).toInt = (pN T n k j : Int) ∧ ∀ i, j = i + 1 → (w.2 16).toInt = nV T n (pN T n k i) ∧ (w.2 17).toInt = (nA T n (pN T n k i) : Int))
section
variable {n k c : Nat} {T : Nat → Int} {tak : Bool} {g : Nat → Int32}
theorem stg_num {M : tMo} {w : Int32 × (Nat → Int32)} {j : Nat} (hB : TxB n T) (hM : gMo_ints M = w.2) (hT : mT g (gMo_text M) n T) (hk : k ≤ n) (hs : stg T n k c tak g j w) (hn : nfT T n k c tak j = none) (ht : ¬ (j = 0 ∧ tak = true)) {p1 p2 : Int32} (h1 : p1.toInt = cLo c j (nV T n k)) (h2 : p2.toInt = hiT c j) : ∃ r, f_Mo_takeNumber M p1 p2 = some r ∧ stg T n k c tak g (j + 1) r := by
  obtain ⟨s1, s2, s3⟩ := hs
  obtain ⟨a1, a2, a3, a4⟩ := s3 hn
  have pb := pN_le T hk j
  obtain ⟨r, e, k1, k2, k3, k4⟩ := m_takeNumber (m := M) (k := pN T n k j) hB ⟨by rw [hM, s1 11 (by decide) (by decide) (by decide) (by decide)]; exact hT.1, hT.2⟩ (by rw [hM]; exact a3) pb.2 h1 h2
  have st := nfT_st hn
  rw [if_neg ht] at st
  refine ⟨r, e, fun x x1 x2 x3 x4 => (k2 x x1 x2 x3 x4).trans (by rw [hM]; exact s1 x x1 x2 x3 x4), fun y hy => ?_, fun hy => ?_⟩
  · rw [st] at hy
    by_cases f : nF T n (pN T n k j) (cLo c j (nV T n k)) (hiT c j) = 0
    · rw [if_pos f] at hy; cases hy
    · rw [if_neg f] at hy; cases hy
      exact ⟨k1, k3 f⟩
  · rw [st] at hy
    by_cases f : nF T n (pN T n k j) (cLo c j (nV T n k)) (hiT c j) = 0
    · obtain ⟨l1, l2, l3, l4⟩ := k4 f
      refine ⟨Int32.toInt_inj.mp (by rw [k1, f]; rfl), l1.trans (by rw [hM]; exact a2), by rw [pN_s]; exact l2, fun i hi => ?_⟩
      have : i = j := by omega
      subst this; exact ⟨l3, l4⟩
    · rw [if_neg f] at hy; cases hy
theorem stg_0 {w : Int32 × (Nat → Int32)} (h0 : w.1 = 0) (hg : w.2 = g) (hk : (g 13).toInt = (k : Int)) : stg T n k c tak g 0 w := by
  refine ⟨fun x _ _ _ _ => by rw [hg], fun y hy => ?_, fun _ => ⟨h0, by rw [hg], by rw [hg]; exact hk, fun i hi => by omega⟩⟩
  have hy : (none : Option (Int × Nat)) = some y := hy
  cases hy
/-- a fault stays -/
theorem stg_stay {w : Int32 × (Nat → Int32)} {j : Nat} {y : Int × Nat} (hs : stg T n k c tak g j w) (hy : nfT T n k c tak j = some y) : stg T n k c tak g (j + 1) w := by
  have e := nfT_some hy 1
  refine ⟨hs.1, fun z hz => ?_, fun hz => ?_⟩
  · rw [e] at hz; cases hz; exact hs.2.1 y hy
  · rw [e] at hz; cases hz
theorem stg_le {w : Int32 × (Nat → Int32)} {j : Nat} (hs : stg T n k c tak g j w) : (nfT T n k c tak j = none ∧ w.1 ≤ 0 ∧ w.1 = 0) ∨ (∃ y, nfT T n k c tak j = some y ∧ ¬ w.1 ≤ 0 ∧ ¬ w.1 = 0) := by
  cases e : nfT T n k c tak j with
  | none =>
    have := (hs.2.2 e).1
    exact Or.inl ⟨rfl, by rw [this]; decide, this⟩
  | some y =>
    have a := (hs.2.1 y e).1
    have p := nfT_pos e
    refine Or.inr ⟨y, rfl, fun z => ?_, fun z => ?_⟩
    · rw [Int32.le_iff_toInt_le, a] at z
      have z : y.1 ≤ 0 := z
      omega
    · rw [z] at a
      have : (0 : Int32).toInt = 0 := rfl
      omega
/-- the next number, if all went well -/
theorem stg_next {M : tMo} {w : Int32 × (Nat → Int32)} {j : Nat} (hB : TxB n T) (hM : gMo_ints M = w.2) (hT : mT g (gMo_text M) n T) (hk : k ≤ n) (hs : stg T n k c tak g (j + 1) w) {p1 p2 : Int32} (h1 : p1.toInt = cLo c (j + 1) (nV T n k)) (h2 : p2.toInt = hiT c (j + 1)) : ∃ w', (if w.1 ≤ 0 then (Option.bind (f_Mo_takeNumber M p1 p2) (fun (r : Int32 × (Nat → Int32)) => (some ((r.1), (r.2))))) else (some ((w.1), (w.2)))) = some w' ∧ stg T n k c tak g (j + 1 + 1) w' := by
  rcases stg_le hs with ⟨a, b, -⟩ | ⟨y, a, b, -⟩
  · rw [if_pos b]
    obtain ⟨r, e, hr⟩ := stg_num hB hM hT hk hs a (fun z => by omega) h1 h2
    rw [e]; exact ⟨_, rfl, hr⟩
  · rw [if_neg b]; exact ⟨_, rfl, stg_stay hs a⟩
end
