/-! THE PURE SIDE 49: what a told clause stores, the class -/
/-- at which place of the told a clause begins -/
def fT (c : Nat) : Nat := (zT_FIRST_TOLD.getD c 0).toInt.toNat
theorem fT_b : ∀ c : Fin 9, c.val ≠ 1 → (zT_FIRST_TOLD.getD c.val 0).toInt = (fT c.val : Int) ∧ (fT c.val : Int) + (zT_NUMBERS_OF.getD c.val 0).toInt ≤ 13 := by decide +kernel
theorem st_told {v : tRe} {c N : Nat} (hc : c ≤ 8) (h1 : c ≠ 1) (hN : (zT_NUMBERS_OF.getD c 0).toInt = (N : Int)) : ∃ g : Nat → Int32, f_Re_store v (Int32.ofNat c) = some (g, gQu_places (gRe_quayDraft v), gQu_strengths (gRe_quayDraft v), gPl_ints (gRe_planDraft v), gPl_seconds (gRe_planDraft v), gPl_engines (gRe_planDraft v), gPl_wheels (gRe_planDraft v), gTi_ints (gRe_tideDraft v), gTi_heights (gRe_tideDraft v)) ∧ (∀ x, ¬ (fT c ≤ x ∧ x < fT c + N) → g x = gQu_ints (gRe_quayDraft v) x) ∧ ∀ j, j < N → g (fT c + j) = gRe_row v j := by
  obtain ⟨o1, o2⟩ := c_ofN ⟨c, by omega⟩
  have o1 : inb (Int32.ofNat c) 11 = true := o1
  have o2 : ix (Int32.ofNat c) = c := o2
  have nb := nums_b ⟨c, by omega⟩
  have nb : 1 ≤ (zT_NUMBERS_OF.getD c 0).toInt ∧ (zT_NUMBERS_OF.getD c 0).toInt ≤ 3 := nb
  obtain ⟨f1, f2⟩ := fT_b ⟨c, by omega⟩ h1
  have f1 : (zT_FIRST_TOLD.getD c 0).toInt = (fT c : Int) := f1
  have f2 : (fT c : Int) + (zT_NUMBERS_OF.getD c 0).toInt ≤ 13 := f2
  have e1 : ¬ Int32.ofNat c = 1 := fun z => h1 ((ofN_eq (b := 1) (by omega) (by decide)).mp z)
  have e9 : ¬ Int32.ofNat c = 9 := fun z => by have := (ofN_eq (a := c) (b := 9) (by omega) (by decide)).mp z; omega
  have e10 : ¬ Int32.ofNat c = 10 := fun z => by have := (ofN_eq (a := c) (b := 10) (by omega) (by decide)).mp z; omega
  have loop : ∃ e, lp (fB_Re_store_89 v (Int32.ofNat c)) LF (0, gQu_ints (gRe_quayDraft v)) = some e ∧ ((∀ x, ¬ (fT c ≤ x ∧ x < fT c + N) → e.2 x = gQu_ints (gRe_quayDraft v) x) ∧ ∀ j, j < N → e.2 (fT c + j) = gRe_row v j) := by
    refine lp_inv (N := N) (I := fun i t => t.1.toInt = (i : Int) ∧ (∀ x, ¬ (fT c ≤ x ∧ x < fT c + N) → t.2 x = gQu_ints (gRe_quayDraft v) x) ∧ ∀ j, j < i → t.2 (fT c + j) = gRe_row v j) (by omega) ?_ ?_ (i := 0) (by omega) ⟨rfl, fun x _ => rfl, fun j hj => absurd hj (by omega)⟩
    · rintro i hi ⟨t, g⟩ ih ⟨a1, a2, a3⟩ go
      have a1 : t.toInt = (i : Int) := a1
      have a2 : ∀ x, ¬ (fT c ≤ x ∧ x < fT c + N) → g x = gQu_ints (gRe_quayDraft v) x := a2
      have a3 : ∀ j, j < i → g (fT c + j) = gRe_row v j := a3
      have hs : (zT_FIRST_TOLD.getD c 0 + t).toInt = ((fT c + i : Nat) : Int) := by
        rw [((rp.of 13 f1 (by omega) (by omega)).add (rp.of 3 a1 (by omega) (by omega)) (by decide)).1]; omega
      simp only [fB_Re_store_89, if_pos o1, o2]
      rw [if_neg (lt_lit a1 hN hi), if_pos (inb_ok (by omega) (by omega)), ix_eq a1, Qu_become_lt _ hs (by omega)]
      refine zlet_ex fun r20 h20 => ?_
      have h20 : r20 = upd g (fT c + i) (gRe_row v i) := h20
      refine go _ ⟨toInt_succ a1 (by omega), fun x hx => ?_, fun j hj => ?_⟩
      · show r20 x = _
        rw [h20, upd_ne _ _ (by omega)]; exact a2 x hx
      · show r20 (fT c + j) = _
        rw [h20]
        by_cases y : j = i
        · subst y; exact upd_eq _ _ _
        · rw [upd_ne _ _ (by omega)]; exact a3 j (by omega)
    · rintro ⟨t, g⟩ ih ⟨a1, a2, a3⟩
      have a1 : t.toInt = (N : Int) := a1
      simp only [fB_Re_store_89, if_pos o1, o2]
      rw [if_pos (ge_lit a1 hN (Nat.le_refl _))]
      exact ⟨_, rfl, a2, a3⟩
  obtain ⟨q8, g1, g2, g3⟩ := loop
  refine ⟨q8.2, ?_, g2, g3⟩
  unfold f_Re_store
  rw [if_neg e1, if_neg e9, if_neg e10, g1]
  rfl
