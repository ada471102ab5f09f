/-! THE PURE SIDE 44: which clause, the reference -/
theorem said_eq {s L : Int64} {X : Int} {c : Nat} (hc : c < 11) (hs : saidI s.toInt X) (hL : L.toInt = wc c) : (s = L) = (X = wc c) := by
  have b := wc_b ⟨c, hc⟩
  have b : wc c < 1000000000 := b
  refine propext ⟨fun h => ?_, fun h => ?_⟩
  · subst h
    rcases hs with x | x
    · omega
    · omega
  · rcases hs with x | x
    · exact Int64.toInt_inj.mp (by omega)
    · omega
theorem code_0 : (5146 : Int64).toInt = wc 0 := by decide +kernel
theorem code_1 : (f_Mo_code 112 111 115 116).toInt = wc 1 := by decide +kernel
theorem code_2 : (f_Mo_code 115 104 105 112).toInt = wc 2 := by decide +kernel
theorem code_3 : (f_Mo_longer (f_Mo_code 115 99 114 101) 119).toInt = wc 3 := by decide +kernel
theorem code_4 : (f_Mo_longer (f_Mo_code 119 104 101 101) 108).toInt = wc 4 := by decide +kernel
theorem code_5 : (f_Mo_code 115 108 111 119).toInt = wc 5 := by decide +kernel
theorem code_6 : (f_Mo_code 119 105 110 100).toInt = wc 6 := by decide +kernel
theorem code_7 : (f_Mo_code 103 105 118 101).toInt = wc 7 := by decide +kernel
theorem code_8 : (f_Mo_longer (f_Mo_longer (f_Mo_code 102 101 110 100) 101) 114).toInt = wc 8 := by decide +kernel
theorem code_9 : (47 : Int64).toInt = wc 9 := by decide +kernel
theorem code_10 : (f_Mo_code 104 111 117 114).toInt = wc 10 := by decide +kernel
def refC (c : Nat) : Nat := if c = 3 then 9 else c
theorem chain_c {X : Int} {r : Int32} (hr : r = if (if X = wc 0 then (0 : Int32) else (if X = wc 1 then 1 else (if X = wc 2 then 2 else (if X = wc 3 then 9 else (-1))))) < 0 then (if X = wc 4 then (4 : Int32) else (if X = wc 5 then 5 else (if X = wc 6 then 6 else (if X = wc 7 then 7 else (if X = wc 8 then 8 else (-1)))))) else (if X = wc 0 then (0 : Int32) else (if X = wc 1 then 1 else (if X = wc 2 then 2 else (if X = wc 3 then 9 else (-1)))))) : (∃ c, c ≤ 8 ∧ X = wc c ∧ r = Int32.ofNat (refC c)) ∨ ((∀ c, c ≤ 8 → ¬ X = wc c) ∧ r = -1) := by
  by_cases h0 : X = wc 0
  · rw [if_pos h0] at hr
    exact Or.inl ⟨0, by decide, h0, hr⟩
  · rw [if_neg h0] at hr
    by_cases h1 : X = wc 1
    · rw [if_pos h1] at hr
      exact Or.inl ⟨1, by decide, h1, hr⟩
    · rw [if_neg h1] at hr
      by_cases h2 : X = wc 2
      · rw [if_pos h2] at hr
        exact Or.inl ⟨2, by decide, h2, hr⟩
      · rw [if_neg h2] at hr
        by_cases h3 : X = wc 3
        · rw [if_pos h3] at hr
          exact Or.inl ⟨3, by decide, h3, hr⟩
        · rw [if_neg h3, if_pos (show (-1 : Int32) < 0 by decide)] at hr
          by_cases h4 : X = wc 4
          · rw [if_pos h4] at hr
            exact Or.inl ⟨4, by decide, h4, hr⟩
          · rw [if_neg h4] at hr
            by_cases h5 : X = wc 5
            · rw [if_pos h5] at hr
              exact Or.inl ⟨5, by decide, h5, hr⟩
            · rw [if_neg h5] at hr
              by_cases h6 : X = wc 6
              · rw [if_pos h6] at hr
                exact Or.inl ⟨6, by decide, h6, hr⟩
              · rw [if_neg h6] at hr
                by_cases h7 : X = wc 7
                · rw [if_pos h7] at hr
                  exact Or.inl ⟨7, by decide, h7, hr⟩
                · rw [if_neg h7] at hr
                  by_cases h8 : X = wc 8
                  · rw [if_pos h8] at hr
                    exact Or.inl ⟨8, by decide, h8, hr⟩
                  · rw [if_neg h8] at hr
                    refine Or.inr ⟨fun c hc => ?_, hr⟩
                    have e : c = 0 ∨ c = 1 ∨ c = 2 ∨ c = 3 ∨ c = 4 ∨ c = 5 ∨ c = 6 ∨ c = 7 ∨ c = 8 := by omega
                    rcases e with rfl | rfl | rfl | rfl | rfl | rfl | rfl | rfl | rfl
                    · exact h0
                    · exact h1
                    · exact h2
                    · exact h3
                    · exact h4
                    · exact h5
                    · exact h6
                    · exact h7
                    · exact h8
theorem m_clauseOf {m : tMo} {X : Int} (hs : saidI (gMo_said m).toInt X) : (∃ c, c ≤ 8 ∧ X = wc c ∧ f_Mo_clauseOf m = Int32.ofNat (refC c)) ∨ ((∀ c, c ≤ 8 → ¬ X = wc c) ∧ f_Mo_clauseOf m = -1) := by
  refine chain_c ?_
  unfold f_Mo_clauseOf
  simp only [zlet, said_eq (by decide) hs code_0, said_eq (by decide) hs code_1, said_eq (by decide) hs code_2, said_eq (by decide) hs code_3, said_eq (by decide) hs code_4, said_eq (by decide) hs code_5, said_eq (by decide) hs code_6, said_eq (by decide) hs code_7, said_eq (by decide) hs code_8]
