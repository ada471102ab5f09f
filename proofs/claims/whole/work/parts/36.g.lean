/-! THE PURE SIDE 43: two loops in step; the stop of a clause -/
theorem lpTwo {S E S' E' : Type} {B : (S → Option E) → S → Option E} {B' : (S' → Option E') → S' → Option E'} {I : Nat → S → S' → Prop} {Q : E → E' → Prop}
    (step : ∀ d s s' (ih : S → Option E) (ih' : S' → Option E'), I d s s' → (∀ d' t t', d' < d → I d' t t' → ∃ e e', ih t = some e ∧ ih' t' = some e' ∧ Q e e') → ∃ e e', B ih s = some e ∧ B' ih' s' = some e' ∧ Q e e') (f : Nat) : ∀ d s s' f', d < f → d < f' → I d s s' → ∃ e e', lp B f s = some e ∧ lp B' f' s' = some e' ∧ Q e e' := by
  induction f with
  | zero => intro d s s' f' h; omega
  | succ f ih =>
    intro d s s' f' h h' hI
    obtain ⟨g, rfl⟩ : ∃ g, f' = g + 1 := ⟨f' - 1, by omega⟩
    rw [lp_succ, lp_succ]
    exact step d s s' _ _ hI (fun d' t t' hd ht => ih d' t t' g (by omega) (by omega) ht)
section
variable {n k : Nat} {T : Nat → Int} {w : tTe} {m : tMo}
theorem scan_idem (P : Nat → Bool) {n k : Nat} (hk : k ≤ n) : scan P n (scan P n k) = scan P n k := by
  obtain ⟨a1, a2, a3, a4⟩ := scan_spec P hk
  obtain ⟨b1, b2, b3, b4⟩ := scan_spec P a2
  by_cases e : scan P n k = n
  · omega
  · have := a4 (by omega)
    rcases Nat.lt_or_ge (scan P n k) (scan P n (scan P n k)) with x | x
    · exact absurd (b3 _ (Nat.le_refl _) x) this
    · omega
/-- a stop stands next -/
def semiP (T : Nat → Int) (n k : Nat) : Prop := nA T n k < n ∧ T (nA T n k) = 59
theorem m_takeStop (hB : TxB n T) (h : mT (gMo_ints m) (gMo_text m) n T) (hj : (gMo_ints m 13).toInt = (k : Int)) (hk : k ≤ n) : ∃ r, f_Mo_takeStop m = some r ∧ ((∀ x, x ≠ 12 → x ≠ 13 → r.2 x = gMo_ints m x) ∧ ((semiP T n k ∧ r.1 = 0 ∧ r.2 12 = gMo_ints m 12 ∧ (r.2 13).toInt = ((nA T n k + 1 : Nat) : Int)) ∨ (¬ semiP T n k ∧ r.1 = 1 ∧ (r.2 12).toInt = (nA T n k : Int)))) := by
  have n300 := hB.1
  unfold f_Mo_takeStop
  refine bind_ex' (m_here hB h hj hk) (fun r1 h1 => ?_)
  obtain ⟨u1, u2, u3⟩ := h1
  obtain ⟨b1, b2, -⟩ := nA_b T hk
  have u1 : (r1.2 13).toInt = (nA T n k : Int) := u1
  have u3 : (nA T n k = n ∧ r1.1 = -1) ∨ (nA T n k < n ∧ r1.1.toInt = T (nA T n k)) := u3
  unfold semiP
  by_cases c : r1.1 = 59
  · rw [if_pos c]
    refine zlet_ex fun z3 h3 => ?_
    refine ⟨_, rfl, fun x x1 x2 => ?_, Or.inl ⟨?_, rfl, ?_, ?_⟩⟩
    · show upd r1.2 13 z3 x = _
      rw [upd_ne _ _ x2]; exact u2 x x2
    · rcases u3 with ⟨_, u3⟩ | ⟨g, u3⟩
      · rw [u3] at c; exact absurd c (by decide)
      · exact ⟨g, by rw [← u3, c]; rfl⟩
    · show upd r1.2 13 z3 12 = _
      rw [upd_ne _ _ (by decide)]; exact u2 12 (by decide)
    · show (upd r1.2 13 z3 13).toInt = _
      rw [upd_eq, h3]; exact toInt_succ u1 (by omega)
  · rw [if_neg c]
    refine ⟨_, rfl, fun x x1 x2 => ?_, Or.inr ⟨fun y => ?_, rfl, ?_⟩⟩
    · show upd r1.2 12 (r1.2 13) x = _
      rw [upd_ne _ _ x1]; exact u2 x x2
    · rcases u3 with ⟨g, _⟩ | ⟨_, u3⟩
      · omega
      · exact c (Int32.toInt_inj.mp (by rw [u3, y.2]; rfl))
    · show (upd r1.2 12 (r1.2 13) 12).toInt = _
      rw [upd_eq]; exact u1
/-- the class's stop: the byte behind the blanks -/
theorem c_stop (hB : TxB n T) (h : cT w n T) {j : Int32} (hj : j.toInt = (k : Int)) (hk : k ≤ n) : ∃ r1, f_Te_behindBlanks w j = some r1 ∧ (r1.toInt = (nA T n k : Int) ∧ ∃ r2, f_Te_byteAt w r1 = some r2 ∧ ((semiP T n k ∧ r2 = 59) ∨ (¬ semiP T n k ∧ ¬ r2 = 59))) := by
  obtain ⟨r1, e1, g1⟩ := c_blanks hB h hj hk
  have g1 : r1.toInt = (nA T n k : Int) := g1
  obtain ⟨b1, b2, -⟩ := nA_b T hk
  obtain ⟨r2, e2, g2⟩ := c_byte hB h g1 b2
  refine ⟨r1, e1, g1, r2, e2, ?_⟩
  unfold semiP
  rcases g2 with ⟨x, y⟩ | ⟨x, y⟩
  · by_cases c : r2 = 59
    · exact Or.inl ⟨⟨x, by rw [← y, c]; rfl⟩, c⟩
    · exact Or.inr ⟨fun z => c (Int32.toInt_inj.mp (by rw [y, z.2]; rfl)), c⟩
  · exact Or.inr ⟨fun z => by omega, by rw [y]; decide⟩
end
