/-! THE PURE SIDE 51: a reading begins, the class -/
theorem c_untold (v : tQu) : ∃ r, f_Qu_becomeUntold v = some r ∧ ((∀ j, j < 13 → r j = zT_UNTOLD.getD j 0) ∧ r 13 = 0) := by
  unfold f_Qu_becomeUntold
  have loop : ∃ e, lp (fB_Qu_becomeUntold_2 v) LF (0, gQu_ints v) = some e ∧ ∀ j, j < 13 → e.2 j = zT_UNTOLD.getD j 0 := by
    refine lp_inv (N := 13) (I := fun i t => t.1.toInt = (i : Int) ∧ ∀ j, j < i → t.2 j = zT_UNTOLD.getD j 0) (by decide) ?_ ?_ (i := 0) (by decide) ⟨rfl, fun j hj => absurd hj (by omega)⟩
    · rintro i hi ⟨t, g⟩ ih ⟨a1, a2⟩ go
      have a1 : t.toInt = (i : Int) := a1
      have a2 : ∀ j, j < i → g j = zT_UNTOLD.getD j 0 := a2
      simp only [fB_Qu_becomeUntold_2]
      rw [if_neg (lt_lit a1 (N := 13) rfl hi), if_pos (inb_ok (by omega) (by omega)), ix_eq a1, Qu_become_lt _ a1 hi]
      refine zlet_ex fun r10 h10 => ?_
      have h10 : r10 = upd g i (zT_UNTOLD.getD i 0) := h10
      refine go _ ⟨toInt_succ a1 (by omega), fun j hj => ?_⟩
      show r10 j = _
      rw [h10]
      by_cases y : j = i
      · subst y; exact upd_eq _ _ _
      · rw [upd_ne _ _ y]; exact a2 j (by omega)
    · rintro ⟨t, g⟩ ih ⟨a1, a2⟩
      have a1 : t.toInt = ((13 : Nat) : Int) := a1
      simp only [fB_Qu_becomeUntold_2]
      rw [if_pos (ge_lit a1 (N := 13) rfl (by omega))]
      exact ⟨_, rfl, a2⟩
  refine bind_ex' loop (fun q2 h2 => ⟨_, rfl, fun j hj => ?_, upd_eq _ _ _⟩)
  rw [upd_ne _ _ (by omega)]; exact h2 j hj
theorem c_times0 (g : Nat → Int32) : ∃ e, lp fB_Re_read_17 LF (0, g) = some e ∧ ∀ j, j < 11 → e.2 j = 0 := by
  refine lp_inv (N := 11) (I := fun i t => t.1.toInt = (i : Int) ∧ ∀ j, j < i → t.2 j = 0) (by decide) ?_ ?_ (i := 0) (by decide) ⟨rfl, fun j hj => absurd hj (by omega)⟩
  · rintro i hi ⟨t, g⟩ ih ⟨a1, a2⟩ go
    have a1 : t.toInt = (i : Int) := a1
    have a2 : ∀ j, j < i → g j = 0 := a2
    simp only [fB_Re_read_17]
    rw [if_neg (lt_lit a1 (N := 11) rfl hi), if_pos (inb_ok (by omega) (by omega)), ix_eq a1]
    refine go _ ⟨toInt_succ a1 (by omega), fun j hj => ?_⟩
    show upd g i 0 j = 0
    by_cases y : j = i
    · subst y; exact upd_eq _ _ _
    · rw [upd_ne _ _ y]; exact a2 j (by omega)
  · rintro ⟨t, g⟩ ih ⟨a1, a2⟩
    have a1 : t.toInt = ((11 : Nat) : Int) := a1
    simp only [fB_Re_read_17]
    rw [if_pos (ge_lit a1 (N := 11) rfl (by omega))]
    exact ⟨_, rfl, a2⟩
