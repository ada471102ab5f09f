/-! THE PURE SIDE 32: letting go, the class's order -/
/-- the lines of S after which all may stay at or below the least -/
def mayGo (F : Nat → Int) (A S l : Nat) : Bool := inS S l && decide (F (remS S l) ≤ F A)
def nextS (F : Nat → Int) (A S : Nat) : Nat := if mayGo F A S 0 = true then 0 else if mayGo F A S 1 = true then 1 else if mayGo F A S 2 = true then 2 else if mayGo F A S 3 = true then 3 else if mayGo F A S 4 = true then 4 else if mayGo F A S 5 = true then 5 else 0
theorem nextS_spec {F : Nat → Int} {A S : Nat} (h : ∃ l, l < 6 ∧ mayGo F A S l = true) : nextS F A S < 6 ∧ mayGo F A S (nextS F A S) = true ∧ ∀ l, l < nextS F A S → ¬ mayGo F A S l = true := by
  obtain ⟨l, l6, hl⟩ := h
  unfold nextS
  by_cases c0 : mayGo F A S 0 = true
  · rw [if_pos c0]; exact ⟨by decide, c0, fun l h => absurd h (by omega)⟩
  · rw [if_neg c0]
    by_cases c1 : mayGo F A S 1 = true
    · rw [if_pos c1]
      refine ⟨by decide, c1, fun l h => ?_⟩
      have e : l = 0 := by omega
      subst e; exact c0
    · rw [if_neg c1]
      by_cases c2 : mayGo F A S 2 = true
      · rw [if_pos c2]
        refine ⟨by decide, c2, fun l h => ?_⟩
        have e : l = 0 ∨ l = 1 := by omega
        rcases e with rfl | rfl <;> assumption
      · rw [if_neg c2]
        by_cases c3 : mayGo F A S 3 = true
        · rw [if_pos c3]
          refine ⟨by decide, c3, fun l h => ?_⟩
          have e : l = 0 ∨ l = 1 ∨ l = 2 := by omega
          rcases e with rfl | rfl | rfl <;> assumption
        · rw [if_neg c3]
          by_cases c4 : mayGo F A S 4 = true
          · rw [if_pos c4]
            refine ⟨by decide, c4, fun l h => ?_⟩
            have e : l = 0 ∨ l = 1 ∨ l = 2 ∨ l = 3 := by omega
            rcases e with rfl | rfl | rfl | rfl <;> assumption
          · rw [if_neg c4]
            by_cases c5 : mayGo F A S 5 = true
            · rw [if_pos c5]
              refine ⟨by decide, c5, fun l h => ?_⟩
              have e : l = 0 ∨ l = 1 ∨ l = 2 ∨ l = 3 ∨ l = 4 := by omega
              rcases e with rfl | rfl | rfl | rfl | rfl <;> assumption
            · exfalso
              have e : l = 0 ∨ l = 1 ∨ l = 2 ∨ l = 3 ∨ l = 4 ∨ l = 5 := by omega
              rcases e with rfl | rfl | rfl | rfl | rfl | rfl <;> contradiction
def seqS (F : Nat → Int) (A : Nat) : Nat → Nat
  | 0 => A
  | i + 1 => remS (seqS F A i) (nextS F A (seqS F A i))
/-- F as the least greatest strains have it -/
def goodF (q ps s L F : Nat → Int) (A : Nat) : Prop := (∀ S, 0 ≤ F S ∧ F S ≤ 9801000) ∧ ∀ S, 0 < S → S < 64 → S &&& A = S → F S = maxI (mostI q ps s L S 6) (afterI F S 6)
theorem goodF_next {q ps s L F : Nat → Int} {A : Nat} (hF : goodF q ps s L F A) {S : Nat} (hS : S < 64) (hA : S &&& A = S) (h0 : S ≠ 0) (hle : F S ≤ F A) : ∃ l, l < 6 ∧ mayGo F A S l = true := by
  obtain ⟨l, hl⟩ := (os_pc0 ⟨S, hS⟩).2.2 h0
  obtain ⟨j, j1, j2, j3⟩ := afterI_ex (f := F) (S := S) (fun l _ _ => hF.1 _) 6 (by decide) l.val l.isLt hl
  have e := hF.2 S (by omega) hS hA
  refine ⟨j, j1, ?_⟩
  have : F (remS S j) ≤ F A := by
    rw [j3]
    have : afterI F S 6 ≤ maxI (mostI q ps s L S 6) (afterI F S 6) := by unfold maxI; split <;> omega
    omega
  unfold mayGo
  rw [j2, decide_eq_true this]; rfl
theorem seqS_ok {q ps s L F : Nat → Int} {A : Nat} (hA : A < 64) (hF : goodF q ps s L F A) (i : Nat) (hi : i ≤ pcS A) : seqS F A i < 64 ∧ seqS F A i &&& A = seqS F A i ∧ F (seqS F A i) ≤ F A ∧ pcS (seqS F A i) + i = pcS A := by
  induction i with
  | zero => exact ⟨hA, Nat.and_self A, Int.le_refl _, rfl⟩
  | succ i ih =>
    obtain ⟨a1, a2, a3, a4⟩ := ih (by omega)
    have h0 : seqS F A i ≠ 0 := fun z => by rw [z] at a4; have : pcS 0 = 0 := by decide
                                            omega
    obtain ⟨n1, n2, n3⟩ := nextS_spec (goodF_next hF a1 a2 h0 a3)
    have nin : inS (seqS F A i) (nextS F A (seqS F A i)) = true := by
      unfold mayGo at n2; exact (Bool.and_eq_true _ _ ▸ n2).1
    have nle : F (remS (seqS F A i) (nextS F A (seqS F A i))) ≤ F A := by
      unfold mayGo at n2; exact of_decide_eq_true (Bool.and_eq_true _ _ ▸ n2).2
    have r := os_remlt ⟨seqS F A i, a1⟩ ⟨nextS F A (seqS F A i), n1⟩
    have r2 := os_remsub ⟨A, hA⟩ ⟨seqS F A i, a1⟩ a2 ⟨nextS F A (seqS F A i), n1⟩
    have r3 := (r.2 nin).2
    have r3 : pcS (remS (seqS F A i) (nextS F A (seqS F A i))) + 1 = pcS (seqS F A i) := r3
    exact ⟨r.1, r2, nle, by show pcS (remS (seqS F A i) (nextS F A (seqS F A i))) + (i + 1) = pcS A; omega⟩
theorem bestI_good {q px ps s L : Nat → Int} {c : Int} (hB : QB q px ps) (hR : RB c s) (hL : LB q L) {A : Nat} (hA : A < 64) (hF : subF L A) : goodF q ps s L (bestI q ps s L A 63) A := by
  refine ⟨fun S => bestI_b hB hR hL hA hF 63 (by decide) S, fun S h0 h64 hs => ?_⟩
  have e1 := bestI_st q ps s L A (S := S) (k := S) (Nat.le_refl _) (63 - S)
  rw [show S + (63 - S) = 63 by omega] at e1
  rw [e1]
  obtain ⟨k, rfl⟩ : ∃ k, S = k + 1 := ⟨S - 1, by omega⟩
  rw [bestI_s, if_pos hs, us_eq]
  have key : ∀ i, i ≤ 6 → afterI (bestI q ps s L A k) (k + 1) i = afterI (bestI q ps s L A 63) (k + 1) i := by
    intro i hi
    induction i with
    | zero => rfl
    | succ i ih =>
      have ih := ih (by omega)
      unfold afterI
      rw [ih]
      by_cases g : inS (k + 1) i = true
      · have r := ((os_remlt ⟨k + 1, h64⟩ ⟨i, by omega⟩).2 g).1
        have r : remS (k + 1) i < k + 1 := r
        have e2 := bestI_st q ps s L A (S := remS (k + 1) i) (k := k) (by omega) (63 - k)
        rw [show k + (63 - k) = 63 by omega] at e2
        rw [e2]
      · rw [if_neg (fun x => g x.1), if_neg (fun x => g x.1)]
  rw [key 6 (by decide)]
section
variable {q px ps s L F : Nat → Int} {c : Int}
theorem c_first2go {v : tLg} {A S : Nat} (hA : A < 64) (hS : S < 64) (hAll : gLg_ints v 3 = Int32.ofNat A) (hFA : (gLg_best v A).toInt = F A ∧ 0 ≤ F A ∧ F A ≤ 9801000) (hF : ∀ l, l < 6 → inS S l = true → (gLg_best v (remS S l)).toInt = F (remS S l) ∧ 0 ≤ F (remS S l) ∧ F (remS S l) ≤ 9801000) (hex : ∃ l, l < 6 ∧ mayGo F A S l = true) : f_Lg_firstToGo v (Int32.ofNat S) = some (Int32.ofNat (nextS F A S)) := by
  obtain ⟨n1, n2, n3⟩ := nextS_spec hex
  generalize nextS F A S = r at n1 n2 n3
  unfold f_Lg_firstToGo
  have aix : ix (Int32.ofNat A) = A := ix_eq (Int32.toInt_ofNat_of_lt (by omega))
  have ain : inb (Int32.ofNat A) 64 = true := inb_ok (by rw [Int32.toInt_ofNat_of_lt (by omega)]; omega) (by rw [Int32.toInt_ofNat_of_lt (by omega)]; omega)
  have loop : ∃ e, lp (fB_Lg_firstToGo_2 v (Int32.ofNat S)) LF 0 = some e ∧ e = Sum.inl (Int32.ofNat r) := by
    have facts : ∀ i : Nat, i < 6 → ∀ j : Int32, j.toInt = (i : Int) → f_Lg_isIn (Int32.ofNat S) j = (if inS S i = true then 1 else 0) ∧ (Int32.ofNat S &&& ((1 <<< (j &&& 31)) ^^^ (-1))) = Int32.ofNat (remS S i) ∧ ix (Int32.ofNat (remS S i)) = remS S i ∧ inb (Int32.ofNat (remS S i)) 64 = true := by
      intro i hi j a1
      have ej : j = Int32.ofNat i := lit_of a1 (by omega)
      have hlt : remS S i < 64 := (os_remlt ⟨S, hS⟩ ⟨i, hi⟩).1
      exact ⟨by rw [ej]; exact os_in ⟨S, hS⟩ ⟨i, hi⟩, by rw [ej]; exact os_rem ⟨S, hS⟩ ⟨i, hi⟩, ix_eq (Int32.toInt_ofNat_of_lt (by omega)), inb_ok (by rw [Int32.toInt_ofNat_of_lt (by omega)]; omega) (by rw [Int32.toInt_ofNat_of_lt (by omega)]; omega)⟩
    refine lp_inv (N := r) (I := fun i t => t.toInt = (i : Int)) (by omega) ?_ ?_ (i := 0) (by omega) rfl
    · intro i hi j ih a1 go
      have a1 : j.toInt = (i : Int) := a1
      obtain ⟨e1, e2, e3, e4⟩ := facts i (by omega) j a1
      simp only [fB_Lg_firstToGo_2, e2, if_pos e4, e3, hAll, if_pos ain, aix]
      rw [if_neg (lt_lit a1 (N := 6) rfl (by omega)), e1]
      by_cases g : inS S i = true
      · rw [if_neg (show ¬ (if inS S i = true then (1 : Int32) else 0) = 0 by rw [if_pos g]; decide)]
        have f := hF i (by omega) g
        have ng := n3 i hi
        have lt : F A < F (remS S i) := by
          rcases Int.lt_or_le (F A) (F (remS S i)) with x | x
          · exact x
          · exact absurd (by unfold mayGo; rw [g, decide_eq_true x]; rfl) ng
        rw [if_pos (((rp.of 9801000 hFA.1 (by omega) (by omega)).lt (rp.of 9801000 f.1 (by omega) (by omega))).mpr lt)]
        exact go _ (toInt_succ a1 (by omega))
      · rw [if_pos (show (if inS S i = true then (1 : Int32) else 0) = 0 by rw [if_neg g])]
        exact go _ (toInt_succ a1 (by omega))
    · intro j ih a1
      have a1 : j.toInt = (r : Int) := a1
      obtain ⟨e1, e2, e3, e4⟩ := facts r n1 j a1
      have g : inS S r = true := by unfold mayGo at n2; exact (Bool.and_eq_true _ _ ▸ n2).1
      have le : F (remS S r) ≤ F A := by unfold mayGo at n2; exact of_decide_eq_true (Bool.and_eq_true _ _ ▸ n2).2
      have f := hF r n1 g
      simp only [fB_Lg_firstToGo_2, e2, if_pos e4, e3, hAll, if_pos ain, aix]
      rw [if_neg (lt_lit a1 (N := 6) rfl (by omega)), e1, if_neg (show ¬ (if inS S r = true then (1 : Int32) else 0) = 0 by rw [if_pos g]; decide), if_neg (fun x => by have := ((rp.of 9801000 hFA.1 (by omega) (by omega)).lt (rp.of 9801000 f.1 (by omega) (by omega))).mp x; omega)]
      exact ⟨_, rfl, by rw [lit_of a1 (by omega)]⟩
  obtain ⟨e, e1, e2⟩ := loop
  rw [e1, Option.bind_some, e2]; rfl
theorem c_lineAt {v : tLg} {A : Nat} (hA : A < 64) (hG : goodF q ps s L F A) (hAll : gLg_ints v 3 = Int32.ofNat A) (hF : ∀ S, S < 64 → S &&& A = S → (gLg_best v S).toInt = F S) (p : Int32) : ∃ r, f_Lg_lineAt v p = some r ∧ ((∃ j : Nat, j < pcS A ∧ p.toInt = (j : Int) ∧ r = Int32.ofNat (nextS F A (seqS F A j))) ∨ (¬ (0 ≤ p.toInt ∧ p.toInt < (pcS A : Int)) ∧ r = -1)) := by
  have p6 : pcS A ≤ 6 := (os_pc0 ⟨A, hA⟩).2.1
  unfold f_Lg_lineAt
  have loop : ∃ e, lp (fB_Lg_lineAt_7 v p) LF (gLg_ints v 3, 0) = some e ∧ (match e with | Sum.inl x => ∃ j : Nat, j < pcS A ∧ p.toInt = (j : Int) ∧ x = Int32.ofNat (nextS F A (seqS F A j)) | Sum.inr _ => ¬ (0 ≤ p.toInt ∧ p.toInt < (pcS A : Int))) := by
    refine lp_inv (N := pcS A) (I := fun i t => t.1 = Int32.ofNat (seqS F A i) ∧ t.2.toInt = (i : Int) ∧ ∀ k : Nat, k < i → ¬ p.toInt = (k : Int)) (by omega) ?_ ?_ (i := 0) (by omega) ⟨hAll, rfl, fun k h => absurd h (by omega)⟩
    · rintro i hi ⟨a, j⟩ ih ⟨a1, a2, a3⟩ go
      have a1 : a = Int32.ofNat (seqS F A i) := a1
      have a2 : j.toInt = (i : Int) := a2
      obtain ⟨b1, b2, b3, b4⟩ := seqS_ok hA hG i (by omega)
      have h0 : seqS F A i ≠ 0 := fun z => by rw [z] at b4; have : pcS 0 = 0 := by decide
                                              omega
      have ex := goodF_next hG b1 b2 h0 b3
      obtain ⟨n1, n2, n3⟩ := nextS_spec ex
      have ea : ¬ a = 0 := fun z => by
        have : a.toInt = 0 := by rw [z]; rfl
        rw [a1, Int32.toInt_ofNat_of_lt (by omega)] at this; omega
      simp only [fB_Lg_lineAt_7]
      rw [if_neg (lt_lit a2 (N := 6) rfl (by omega)), if_neg ea, a1, c_first2go (F := F) hA b1 hAll ⟨hF A hA (Nat.and_self A), hG.1 A⟩ (fun l hl hi => ⟨hF _ (os_remlt ⟨_, b1⟩ ⟨l, hl⟩).1 (os_remsub ⟨A, hA⟩ ⟨_, b1⟩ b2 ⟨l, hl⟩), hG.1 _⟩) ex, Option.bind_some]
      by_cases d : j = p
      · rw [if_pos d]
        exact ⟨_, rfl, i, hi, by rw [← d]; exact a2, rfl⟩
      · rw [if_neg d]
        refine zlet_ex fun z10 h10 => ?_
        refine go _ ⟨?_, toInt_succ a2 (by omega), fun k hk => ?_⟩
        · show z10 = _
          rw [h10]; exact os_rem ⟨_, b1⟩ ⟨_, n1⟩
        · by_cases e : k = i
          · subst e; exact fun x => d (Int32.toInt_inj.mp (a2.trans x.symm))
          · exact a3 k (by omega)
    · rintro ⟨a, j⟩ ih ⟨a1, a2, a3⟩
      have a1 : a = Int32.ofNat (seqS F A (pcS A)) := a1
      obtain ⟨b1, b2, b3, b4⟩ := seqS_ok hA hG (pcS A) (Nat.le_refl _)
      have z : seqS F A (pcS A) = 0 := (os_pc0 ⟨_, b1⟩).1 (by show pcS (seqS F A (pcS A)) = 0; omega)
      have res : ¬ (0 ≤ p.toInt ∧ p.toInt < (pcS A : Int)) := fun x => a3 p.toInt.toNat (by omega) (by omega)
      simp only [fB_Lg_lineAt_7]
      by_cases d : (6 : Int32) ≤ j
      · rw [if_pos d]; exact ⟨_, rfl, res⟩
      · rw [if_neg d, if_pos (show a = 0 by rw [a1, z]; rfl)]; exact ⟨_, rfl, res⟩
  refine bind_ex' loop (fun q2 h2 => ?_)
  rcases q2 with x | x
  · exact ⟨_, rfl, Or.inl h2⟩
  · exact ⟨_, rfl, Or.inr ⟨h2, rfl⟩⟩
end
