/-! THE PURE SIDE 31: letting go, the class -/
theorem bestI_s (q ps s L : Nat → Int) (A k : Nat) : bestI q ps s L A (k + 1) = if (k + 1) &&& A = k + 1 then us (bestI q ps s L A k) (k + 1) (maxI (mostI q ps s L (k + 1) 6) (afterI (bestI q ps s L A k) (k + 1) 6)) else bestI q ps s L A k := rfl
theorem bestI_b {q px ps s L : Nat → Int} {c : Int} (hB : QB q px ps) (hR : RB c s) (hL : LB q L) {A : Nat} (hA : A < 64) (hF : subF L A) (k : Nat) (hk : k < 64) : ∀ S, 0 ≤ bestI q ps s L A k S ∧ bestI q ps s L A k S ≤ 9801000 := by
  induction k with
  | zero => intro S; exact ⟨Int.le_refl _, (by decide : (0 : Int) ≤ 9801000)⟩
  | succ k ih =>
    intro S
    have ih := ih (by omega)
    unfold bestI
    by_cases g : (k + 1) &&& A = k + 1
    · rw [if_pos g]
      by_cases e : S = k + 1
      · subst e
        rw [us_eq]
        have sf : subF L (k + 1) := fun l hl hi => hF l hl (os_insub ⟨A, hA⟩ ⟨k + 1, hk⟩ g ⟨l, hl⟩ hi)
        have m := mostI_b hB hR hL sf 6 (by decide)
        have a := afterI_b (f := bestI q ps s L A k) (S := k + 1) (fun l _ _ => ih _) 6 (by decide)
        unfold maxI; split <;> omega
      · rw [us_ne _ _ e]; exact ih S
    · rw [if_neg g]; exact ih S
/-- what stands stays -/
theorem bestI_st (q ps s L : Nat → Int) (A : Nat) {S k : Nat} (h : S ≤ k) (j : Nat) : bestI q ps s L A (k + j) S = bestI q ps s L A k S := by
  induction j with
  | zero => rfl
  | succ j ih =>
    show bestI q ps s L A (k + j + 1) S = _
    rw [bestI_s]
    split
    · rw [us_ne _ _ (by omega)]; exact ih
    · exact ih
theorem bestI_end (q ps s L : Nat → Int) {A : Nat} (hA : A < 64) (j : Nat) (hj : A + j < 64) : bestI q ps s L A (A + j) = bestI q ps s L A A := by
  induction j with
  | zero => rfl
  | succ j ih =>
    show bestI q ps s L A (A + j + 1) = _
    rw [bestI_s, if_neg (fun g => by
      have := os_le ⟨A, hA⟩ ⟨A + j + 1, by omega⟩ g
      simp only at this; omega)]
    exact ih (by omega)
section
variable {q px ps s L : Nat → Int} {c : Int}
theorem c_strain {v : tLg} (hB : QB q px ps) (hR : RB c s) (hL : LB q L) (hsh : ∀ l, l < 6 → L (4 * l) = 1 → (gLg_shares v l).toInt = shareI q s L l) (hst : ∀ l, l < 6 → L (4 * l) = 1 → (gLg_strengths v l).toInt = ps (L (4 * l + 2)).toNat) {S : Nat} (hS : S < 64) (sf : subF L S) {b : Int32} (hb : b.toInt = blowI q) : ∃ r, f_Lg_strainOf v (Int32.ofNat S) b = some r ∧ r.toInt = mostI q ps s L S 6 := by
  have bb := blowI_b hB
  unfold f_Lg_strainOf
  have l1 : ∃ e, lp (fB_Lg_strainOf_5 v (Int32.ofNat S)) LF (0, 0) = some e ∧ e.1.toInt = sumI q s L S 6 := by
    refine lp_inv (N := 6) (I := fun i t => t.2.toInt = (i : Int) ∧ t.1.toInt = sumI q s L S i) (by decide) ?_ ?_ (i := 0) (by decide) ⟨rfl, rfl⟩
    · rintro i hi ⟨a, j⟩ ih ⟨a1, a2⟩ go
      have a1 : j.toInt = (i : Int) := a1
      have a2 : a.toInt = sumI q s L S i := a2
      obtain ⟨s1, s2, -⟩ := sumI_b hB hR hL sf i (by omega)
      have ej : j = Int32.ofNat i := lit_of a1 (by omega)
      simp only [fB_Lg_strainOf_5]
      rw [if_neg (lt_lit a1 (N := 6) rfl hi), ej, os_in ⟨S, hS⟩ ⟨i, hi⟩, ← ej]
      show ∃ e, Option.bind (if (if inS S i = true then (1 : Int32) else 0) = 0 then _ else _) _ = some e ∧ _
      have ra : rp a (sumI q s L S i) 26124 := ⟨a2, by omega, by omega⟩
      have su : sumI q s L S (i + 1) = sumI q s L S i + (if inS S i = true then shareI q s L i else 0) := rfl
      by_cases g : inS S i = true
      · have f := sf i hi g
        have sb := shareI_b hB hR hL hi f
        rw [if_neg (show ¬ (if inS S i = true then (1 : Int32) else 0) = 0 by rw [if_pos g]; decide), if_pos (inb_ok (by omega) (by omega)), ix_eq a1, Option.bind_some]
        refine zlet_ex fun z12 h12 => ?_
        refine go _ ⟨toInt_succ a1 (by omega), ?_⟩
        show z12.toInt = _
        rw [h12, (ra.add (rp.of (a := gLg_shares v i) 4354 (hsh i hi f) (by omega) (by omega)) (by decide)).1, su, if_pos g]
      · rw [if_pos (show (if inS S i = true then (1 : Int32) else 0) = 0 by rw [if_neg g]), Option.bind_some]
        refine zlet_ex fun z12 h12 => ?_
        refine go _ ⟨toInt_succ a1 (by omega), ?_⟩
        show z12.toInt = _
        rw [h12, (ra.add (rp.lit 0 0 (a := 0) rfl rfl) (by decide)).1, su, if_neg g]
    · rintro ⟨a, j⟩ ih ⟨a1, a2⟩
      have a1 : j.toInt = ((6 : Nat) : Int) := a1
      simp only [fB_Lg_strainOf_5]
      rw [if_pos (ge_lit a1 (N := 6) rfl (by omega))]
      exact ⟨_, rfl, a2⟩
  refine bind_ex' l1 (fun q2 h2 => ?_)
  have l2 : ∃ e, lp (fB_Lg_strainOf_47 v (Int32.ofNat S) b q2) LF (0, 0) = some e ∧ e.1.toInt = mostI q ps s L S 6 := by
    refine lp_inv (N := 6) (I := fun i t => t.2.toInt = (i : Int) ∧ t.1.toInt = mostI q ps s L S i) (by decide) ?_ ?_ (i := 0) (by decide) ⟨rfl, rfl⟩
    · rintro i hi ⟨a, j⟩ ih ⟨a1, a2⟩ go
      have a1 : j.toInt = (i : Int) := a1
      have a2 : a.toInt = mostI q ps s L S i := a2
      have mb := mostI_b hB hR hL sf i (by omega)
      have ej : j = Int32.ofNat i := lit_of a1 (by omega)
      have hin : inb j 6 = true := inb_ok (by omega) (by omega)
      have mo : mostI q ps s L S (i + 1) = if inS S i = true then maxI (mostI q ps s L S i) (strainI q ps s L S i) else mostI q ps s L S i := rfl
      have ein : f_Lg_isIn (Int32.ofNat S) j = if inS S i = true then 1 else 0 := by rw [ej]; exact os_in ⟨S, hS⟩ ⟨i, hi⟩
      simp only [fB_Lg_strainOf_47]
      rw [if_neg (lt_lit a1 (N := 6) rfl hi), ein]
      by_cases g : inS S i = true
      · have f := sf i hi g
        have sb := shareI_b hB hR hL hi f
        obtain ⟨z1, z2, z3, z4⟩ := quotI_b hB hR hL sf hi g
        have lb := hL_of hL hi f
        have pb := (hB.2.2.2.2.2.2.2.2.2.2.2.2.2 (L (4 * i + 2)).toNat (by omega)).2
        have sg := strainI_b hB hR hL sf hi g
        have rs : rp q2.1 (sumI q s L S 6) 26124 := ⟨h2, by omega, by omega⟩
        have rsh : rp (gLg_shares v i) (shareI q s L i) 4354 := ⟨hsh i hi f, by omega, by omega⟩
        have rst : rp (gLg_strengths v i) (ps (L (4 * i + 2)).toNat) 999 := ⟨hst i hi f, by omega, by omega⟩
        have rb : rp b (blowI q) 98010 := ⟨hb, by omega, by omega⟩
        have ra : rp a (mostI q ps s L S i) 9801000 := ⟨a2, by omega, by omega⟩
        have z0 := rp.lit 0 0 (a := (0 : Int32)) rfl rfl
        have c1 : ¬ q2.1 ≤ 0 := fun x => by have := (rs.le z0).mp x; omega
        have c2 : ¬ q2.1 = 0 := fun x => by have := (rs.eqi z0).mp x; omega
        have c3 : ¬ gLg_strengths v i ≤ 0 := fun x => by have := (rst.le z0).mp x; omega
        have c4 : ¬ gLg_strengths v i = 0 := fun x => by have := (rst.eqi z0).mp x; omega
        rw [if_neg (show ¬ (if inS S i = true then (1 : Int32) else 0) = 0 by rw [if_pos g]; decide), if_neg c1, if_pos hin, ix_eq a1, if_neg c3, if_pos hin, if_neg c2, if_pos hin, if_neg c4]
        refine zlet_ex fun z28 h28 => ?_
        have k := ra.max (((((rb.mul rsh (by decide)).div rs (by decide)).tight 98010 (by omega) z2).mul (rp.lit 100 100 (a := 100) rfl rfl) (by decide)).div rst (by decide))
        rw [← h28] at k
        refine go _ ⟨toInt_succ a1 (by omega), ?_⟩
        show z28.toInt = _
        rw [k.1, mo, if_pos g]; rfl
      · rw [if_pos (show (if inS S i = true then (1 : Int32) else 0) = 0 by rw [if_neg g])]
        refine go _ ⟨toInt_succ a1 (by omega), ?_⟩
        show a.toInt = _
        rw [a2, mo, if_neg g]
    · rintro ⟨a, j⟩ ih ⟨a1, a2⟩
      have a1 : j.toInt = ((6 : Nat) : Int) := a1
      simp only [fB_Lg_strainOf_47]
      rw [if_pos (ge_lit a1 (N := 6) rfl (by omega))]
      exact ⟨_, rfl, a2⟩
  exact bind_ex' l2 (fun q14 h14 => ⟨_, rfl, h14⟩)
theorem c_after {v : tLg} {F : Nat → Int} {S : Nat} (hS : S < 64) (hF : ∀ l, l < 6 → inS S l = true → (gLg_best v (remS S l)).toInt = F (remS S l) ∧ 0 ≤ F (remS S l) ∧ F (remS S l) ≤ 9801000) : ∃ r, f_Lg_bestAfterOne v (Int32.ofNat S) = some r ∧ r.toInt = afterI F S 6 := by
  unfold f_Lg_bestAfterOne
  have l1 : ∃ e, lp (fB_Lg_bestAfterOne_4 v (Int32.ofNat S)) LF (-1, 0) = some e ∧ e.1.toInt = afterI F S 6 := by
    refine lp_inv (N := 6) (I := fun i t => t.2.toInt = (i : Int) ∧ t.1.toInt = afterI F S i) (by decide) ?_ ?_ (i := 0) (by decide) ⟨rfl, rfl⟩
    · rintro i hi ⟨a, j⟩ ih ⟨a1, a2⟩ go
      have a1 : j.toInt = (i : Int) := a1
      have a2 : a.toInt = afterI F S i := a2
      have ab := afterI_b (f := F) (S := S) (fun l hl hi => (hF l hl hi).2) i (by omega)
      have ej : j = Int32.ofNat i := lit_of a1 (by omega)
      have af : afterI F S (i + 1) = if inS S i = true ∧ (afterI F S i = -1 ∨ F (remS S i) < afterI F S i) then F (remS S i) else afterI F S i := rfl
      have ein : f_Lg_isIn (Int32.ofNat S) j = if inS S i = true then 1 else 0 := by rw [ej]; exact os_in ⟨S, hS⟩ ⟨i, hi⟩
      have erm : (Int32.ofNat S &&& ((1 <<< (j &&& 31)) ^^^ (-1))) = Int32.ofNat (remS S i) := by rw [ej]; exact os_rem ⟨S, hS⟩ ⟨i, hi⟩
      have hlt := (os_remlt ⟨S, hS⟩ ⟨i, hi⟩).1
      have hlt : remS S i < 64 := hlt
      have eix : ix (Int32.ofNat (remS S i)) = remS S i := ix_eq (Int32.toInt_ofNat_of_lt (by omega))
      have hin : inb (Int32.ofNat (remS S i)) 64 = true := inb_ok (by rw [Int32.toInt_ofNat_of_lt (by omega)]; omega) (by rw [Int32.toInt_ofNat_of_lt (by omega)]; omega)
      simp only [fB_Lg_bestAfterOne_4, erm, if_pos hin, eix]
      rw [if_neg (lt_lit a1 (N := 6) rfl hi), ein]
      by_cases g : inS S i = true
      · obtain ⟨f1, f2, f3⟩ := hF i hi g
        rw [if_neg (show ¬ (if inS S i = true then (1 : Int32) else 0) = 0 by rw [if_pos g]; decide)]
        have ra : rp a (afterI F S i) 9801000 := ⟨a2, by omega, by omega⟩
        by_cases d : a = -1
        · have d' := (ra.eqi (rp.lit (-1) 1 (a := -1) rfl rfl)).mp d
          rw [if_pos d]
          refine zlet_ex fun z11 h11 => ?_
          refine go _ ⟨toInt_succ a1 (by omega), ?_⟩
          show z11.toInt = _
          rw [h11, af, if_pos ⟨g, Or.inl d'⟩]; exact f1
        · have d' : ¬ _ := fun x => d ((ra.eqi (rp.lit (-1) 1 (a := -1) rfl rfl)).mpr x)
          rw [if_neg d]
          by_cases e : a ≤ gLg_best v (remS S i)
          · have e' := (ra.le (rp.of 9801000 f1 (by omega) (by omega))).mp e
            rw [if_pos e]
            refine go _ ⟨toInt_succ a1 (by omega), ?_⟩
            show a.toInt = _
            rw [af, if_neg (fun x => by rcases x.2 with y | y <;> omega)]; exact a2
          · have e' : ¬ _ := fun x => e ((ra.le (rp.of 9801000 f1 (by omega) (by omega))).mpr x)
            rw [if_neg e]
            refine zlet_ex fun z11 h11 => ?_
            refine go _ ⟨toInt_succ a1 (by omega), ?_⟩
            show z11.toInt = _
            rw [h11, af, if_pos ⟨g, Or.inr (by omega)⟩]; exact f1
      · rw [if_pos (show (if inS S i = true then (1 : Int32) else 0) = 0 by rw [if_neg g])]
        refine go _ ⟨toInt_succ a1 (by omega), ?_⟩
        show a.toInt = _
        rw [af, if_neg (fun x => g x.1)]; exact a2
    · rintro ⟨a, j⟩ ih ⟨a1, a2⟩
      have a1 : j.toInt = ((6 : Nat) : Int) := a1
      simp only [fB_Lg_bestAfterOne_4]
      rw [if_pos (ge_lit a1 (N := 6) rfl (by omega))]
      exact ⟨_, rfl, a2⟩
  exact bind_ex' l1 (fun q2 h2 => ⟨_, rfl, h2⟩)
end
