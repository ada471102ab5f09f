/-! THE PURE SIDE 10: copies, first states, counts -/
theorem t9 {i : Nat} (h : i < 9) : i = 0 ∨ i = 1 ∨ i = 2 ∨ i = 3 ∨ i = 4 ∨ i = 5 ∨ i = 6 ∨ i = 7 ∨ i = 8 := by omega
theorem t13 {i : Nat} (h : i < 13) : i = 0 ∨ i = 1 ∨ i = 2 ∨ i = 3 ∨ i = 4 ∨ i = 5 ∨ i = 6 ∨ i = 7 ∨ i = 8 ∨ i = 9 ∨ i = 10 ∨ i = 11 ∨ i = 12 := by omega
theorem lit_of {j : Int32} {i : Nat} (h : j.toInt = (i : Int)) (hi : i < 1000) : j = Int32.ofNat i := Int32.toInt_inj.mp (by rw [h, Int32.toInt_ofNat_of_lt (by omega)])
theorem Sh_reading_lt (v : tSh) {j : Int32} {i : Nat} (h : j.toInt = (i : Int)) (hi : i < 9) : f_Sh_reading v j = some (gSh_ints v i) := by
  have e := lit_of h (by omega)
  rcases t9 hi with rfl | rfl | rfl | rfl | rfl | rfl | rfl | rfl | rfl <;> (subst e; rfl)
theorem Sh_become_lt (v : tSh) {j : Int32} {i : Nat} (h : j.toInt = (i : Int)) (hi : i < 9) (x : Int32) : f_Sh_become v j x = upd (gSh_ints v) i x := by
  have e := lit_of h (by omega)
  rcases t9 hi with rfl | rfl | rfl | rfl | rfl | rfl | rfl | rfl | rfl <;> (subst e; rfl)
theorem Qu_number_lt (v : tQu) {j : Int32} {i : Nat} (h : j.toInt = (i : Int)) (hi : i < 13) : f_Qu_number v j = gQu_ints v i := by
  have e := lit_of h (by omega)
  rcases t13 hi with rfl | rfl | rfl | rfl | rfl | rfl | rfl | rfl | rfl | rfl | rfl | rfl | rfl <;> (subst e; rfl)
theorem Qu_become_lt (v : tQu) {j : Int32} {i : Nat} (h : j.toInt = (i : Int)) (hi : i < 13) (x : Int32) : f_Qu_become v j x = upd (gQu_ints v) i x := by
  have e := lit_of h (by omega)
  rcases t13 hi with rfl | rfl | rfl | rfl | rfl | rfl | rfl | rfl | rfl | rfl | rfl | rfl | rfl <;> (subst e; rfl)
/-- a step of a loop that counts up to n -/
theorem lt_lit {j n : Int32} {i : Nat} {N : Nat} (h : j.toInt = (i : Int)) (hn : n.toInt = (N : Int)) (hi : i < N) : ¬ n ≤ j := by
  rw [Int32.le_iff_toInt_le, h, hn]; omega
theorem ge_lit {j n : Int32} {i : Nat} {N : Nat} (h : j.toInt = (i : Int)) (hn : n.toInt = (N : Int)) (hi : N ≤ i) : n ≤ j := by
  rw [Int32.le_iff_toInt_le, h, hn]; omega
theorem upd_lt {f g : Nat → Int32} {i : Nat} (h : ∀ k, k < i → f k = g k) : ∀ k, k < i + 1 → upd f i (g i) k = g k := by
  intro k hk
  by_cases e : k = i
  · subst e; exact upd_eq _ _ _
  · rw [upd_ne _ _ e]; exact h k (by omega)
theorem updL_lt {f g : Nat → Int64} {i : Nat} (h : ∀ k, k < i → f k = g k) : ∀ k, k < i + 1 → vp_updL f i (g i) k = g k := by
  intro k hk
  by_cases e : k = i
  · subst e; exact updL_eq _ _ _
  · rw [updL_ne _ _ e]; exact h k (by omega)
theorem nar_bool {x : Int32} (h : x.toInt = 0 ∨ x.toInt = 1) : vp_nar .boolean x = x := by
  rcases h with h | h
  · rw [show x = 0 from Int32.toInt_inj.mp h]; rfl
  · rw [show x = 1 from Int32.toInt_inj.mp h]; rfl
theorem cL.of_eq {f p o n f' p' o' n' : Nat → Int32} {L : Nat → Int} (h : cL f p o n L) (h1 : ∀ k, k < 6 → f' k = f k) (h2 : ∀ k, k < 6 → p' k = p k) (h3 : ∀ k, k < 6 → o' k = o k) (h4 : ∀ k, k < 6 → n' k = n k) : cL f' p' o' n' L := by
  intro l hl
  rw [h1 l hl, h2 l hl, h3 l hl, h4 l hl]
  exact h l hl
def cntI (L : Nat → Int) : Nat → Int
  | 0 => 0
  | l + 1 => cntI L l + L (4 * l)
section
variable {q L s : Nat → Int}
theorem c_lcopy (v0 v1 : tLi) (h01 : ∀ k, k < 6 → (gLi_fast v1 k).toInt = 0 ∨ (gLi_fast v1 k).toInt = 1) : ∃ r, f_Li_copyFrom v0 v1 = some r ∧ ((∀ k, k < 6 → r.1 k = gLi_fast v1 k) ∧ (∀ k, k < 6 → r.2.1 k = gLi_place v1 k) ∧ (∀ k, k < 6 → r.2.2.1 k = gLi_post v1 k) ∧ (∀ k, k < 6 → r.2.2.2 k = gLi_length v1 k)) := by
  unfold f_Li_copyFrom
  have loop : ∃ e, lp (fB_Li_copyFrom_2 v1) LF (0, gLi_fast v0, gLi_place v0, gLi_post v0, gLi_length v0) = some e ∧ ((∀ k, k < 6 → e.2.1 k = gLi_fast v1 k) ∧ (∀ k, k < 6 → e.2.2.1 k = gLi_place v1 k) ∧ (∀ k, k < 6 → e.2.2.2.1 k = gLi_post v1 k) ∧ (∀ k, k < 6 → e.2.2.2.2 k = gLi_length v1 k)) := by
    refine lp_inv (N := 6) (I := fun i t => t.1.toInt = (i : Int) ∧ (∀ k, k < i → t.2.1 k = gLi_fast v1 k) ∧ (∀ k, k < i → t.2.2.1 k = gLi_place v1 k) ∧ (∀ k, k < i → t.2.2.2.1 k = gLi_post v1 k) ∧ (∀ k, k < i → t.2.2.2.2 k = gLi_length v1 k)) (by decide) ?_ ?_ (i := 0) (by decide) ⟨rfl, fun k h => absurd h (by omega), fun k h => absurd h (by omega), fun k h => absurd h (by omega), fun k h => absurd h (by omega)⟩
    · rintro i hi ⟨j, f, p, o, n⟩ ih ⟨a0, a1, a2, a3, a4⟩ go
      have a0 : j.toInt = (i : Int) := a0
      have hin : inb j 6 = true := inb_ok (by omega) (by omega)
      have hix : ix j = i := ix_eq a0
      simp only [fB_Li_copyFrom_2, if_pos hin, hix]
      rw [if_neg (lt_lit a0 (N := 6) rfl hi), nar_bool (h01 i hi)]
      exact go _ ⟨toInt_succ a0 (by omega), upd_lt a1, upd_lt a2, upd_lt a3, upd_lt a4⟩
    · rintro ⟨j, f, p, o, n⟩ ih ⟨a0, a1, a2, a3, a4⟩
      have a0 : j.toInt = ((6 : Nat) : Int) := a0
      simp only [fB_Li_copyFrom_2]
      rw [if_pos (ge_lit a0 (N := 6) rfl (by omega))]
      exact ⟨_, rfl, a1, a2, a3, a4⟩
  exact bind_ex' loop (fun q2 h2 => ⟨_, rfl, h2⟩)
theorem cL.b01 {f p o n : Nat → Int32} (h : cL f p o n L) (hL : LB q L) : ∀ k, k < 6 → (f k).toInt = 0 ∨ (f k).toInt = 1 := by
  intro k hk
  rw [(h k hk).1]
  rcases hL k hk with h | h <;> omega
theorem c_copy {v0 v1 : tSh} (hS : cS (gSh_ints v1) (gSh_harm v1) s) (hL : LB q L) (hl : cL (gLi_fast (gSh_lines v1)) (gLi_place (gSh_lines v1)) (gLi_post (gSh_lines v1)) (gLi_length (gSh_lines v1)) L) :
    ∃ r, f_Sh_copyFrom v0 v1 = some r ∧ (cS r.1 r.2.1 s ∧ r.1 12 = gSh_ints v1 12 ∧ cL r.2.2.1 r.2.2.2.1 r.2.2.2.2.1 r.2.2.2.2.2 L) := by
  unfold f_Sh_copyFrom
  have loop : ∃ e, lp (fB_Sh_copyFrom_2 v0 v1) LF (0, gSh_ints v0) = some e ∧ (∀ k, k < 9 → e.2 k = gSh_ints v1 k) := by
    refine lp_inv (N := 9) (I := fun i t => t.1.toInt = (i : Int) ∧ (∀ k, k < i → t.2 k = gSh_ints v1 k)) (by decide) ?_ ?_ (i := 0) (by decide) ⟨rfl, fun k h => absurd h (by omega)⟩
    · rintro i hi ⟨j, f⟩ ih ⟨a0, a1⟩ go
      have a0 : j.toInt = (i : Int) := a0
      simp only [fB_Sh_copyFrom_2]
      rw [if_neg (lt_lit a0 (N := 9) rfl hi)]
      refine bind_ex (Sh_reading_lt v1 a0 hi) ?_
      refine zlet_ex fun r8 h8 => ?_
      rw [Sh_become_lt _ a0 hi] at h8
      refine go _ ⟨toInt_succ a0 (by omega), ?_⟩
      rw [h8]; exact upd_lt a1
    · rintro ⟨j, f⟩ ih ⟨a0, a1⟩
      have a0 : j.toInt = ((9 : Nat) : Int) := a0
      simp only [fB_Sh_copyFrom_2]
      rw [if_pos (ge_lit a0 (N := 9) rfl (by omega))]
      exact ⟨_, rfl, a1⟩
  refine bind_ex' loop (fun q2 h2 => ?_)
  refine bind_ex' (c_lcopy _ _ (hl.b01 hL)) (fun r9 h9 => ?_)
  refine ⟨_, rfl, ?_, ?_, hl.of_eq h9.1 h9.2.1 h9.2.2.1 h9.2.2.2⟩
  · obtain ⟨c0, c1, c2, c3, c4, c5, c6, c7, c8, c9, c10, c11, c12⟩ := hS
    refine ⟨?_, ?_, ?_, ?_, ?_, ?_, ?_, ?_, ?_, ?_, ?_, ?_, ?_⟩ <;> (try simp (disch := decide) only [upd_eq, upd_ne])
    · rw [h2 _ (by decide)]; exact c0
    · rw [h2 _ (by decide)]; exact c1
    · rw [h2 _ (by decide)]; exact c2
    · rw [h2 _ (by decide)]; exact c3
    · rw [h2 _ (by decide)]; exact c4
    · rw [h2 _ (by decide)]; exact c5
    · rw [h2 _ (by decide)]; exact c6
    · rw [h2 _ (by decide)]; exact c7
    · rw [h2 _ (by decide)]; exact c8
    · exact c9
    · exact c10
    · exact c11
    · exact c12
  · simp (disch := decide) only [upd_eq]
def firstI : Nat → Int := fun k => if k = 0 then 4500 else if k = 1 then 3000 else 0
theorem c_letgo (v : tLi) : ∃ r, f_Li_letAllGo v = some r ∧ (∀ k, k < 6 → r k = 0) := by
  unfold f_Li_letAllGo
  have loop : ∃ e, lp (fB_Li_letAllGo_2) LF (0, gLi_fast v) = some e ∧ (∀ k, k < 6 → e.2 k = 0) := by
    refine lp_inv (N := 6) (I := fun i t => t.1.toInt = (i : Int) ∧ (∀ k, k < i → t.2 k = 0)) (by decide) ?_ ?_ (i := 0) (by decide) ⟨rfl, fun k h => absurd h (by omega)⟩
    · rintro i hi ⟨j, f⟩ ih ⟨a0, a1⟩ go
      have a0 : j.toInt = (i : Int) := a0
      have hin : inb j 6 = true := inb_ok (by omega) (by omega)
      have hix : ix j = i := ix_eq a0
      simp only [fB_Li_letAllGo_2, if_pos hin, hix]
      rw [if_neg (lt_lit a0 (N := 6) rfl hi)]
      exact go _ ⟨toInt_succ a0 (by omega), upd_lt (g := fun _ => 0) a1⟩
    · rintro ⟨j, f⟩ ih ⟨a0, a1⟩
      have a0 : j.toInt = ((6 : Nat) : Int) := a0
      simp only [fB_Li_letAllGo_2]
      rw [if_pos (ge_lit a0 (N := 6) rfl (by omega))]
      exact ⟨_, rfl, a1⟩
  exact bind_ex' loop (fun q2 h2 => ⟨_, rfl, h2⟩)
theorem c_first (v : tSh) : ∃ r, f_Sh_becomeFirst v = some r ∧ (cS r.1 r.2.1 firstI ∧ r.1 12 = gSh_ints v 12 ∧ ∀ k, k < 6 → r.2.2 k = 0) := by
  unfold f_Sh_becomeFirst
  have loop : ∃ e, lp (fB_Sh_becomeFirst_2 v) LF (0, gSh_ints v) = some e ∧ ((∀ k, k < 9 → e.2 k = 0) ∧ e.2 12 = gSh_ints v 12) := by
    refine lp_inv (N := 9) (I := fun i t => t.1.toInt = (i : Int) ∧ (∀ k, k < i → t.2 k = 0) ∧ t.2 12 = gSh_ints v 12) (by decide) ?_ ?_ (i := 0) (by decide) ⟨rfl, fun k h => absurd h (by omega), rfl⟩
    · rintro i hi ⟨j, f⟩ ih ⟨a0, a1, a2⟩ go
      have a0 : j.toInt = (i : Int) := a0
      simp only [fB_Sh_becomeFirst_2]
      rw [if_neg (lt_lit a0 (N := 9) rfl hi)]
      refine zlet_ex fun r8 h8 => ?_
      rw [Sh_become_lt _ a0 hi] at h8
      refine go _ ⟨toInt_succ a0 (by omega), ?_, ?_⟩
      · rw [h8]; exact upd_lt (g := fun _ => 0) a1
      · rw [h8]; show upd f i 0 12 = _; rw [upd_ne _ _ (by omega)]; exact a2
    · rintro ⟨j, f⟩ ih ⟨a0, a1, a2⟩
      have a0 : j.toInt = ((9 : Nat) : Int) := a0
      simp only [fB_Sh_becomeFirst_2]
      rw [if_pos (ge_lit a0 (N := 9) rfl (by omega))]
      exact ⟨_, rfl, a1, a2⟩
  refine bind_ex' loop (fun q2 h2 => ?_)
  refine bind_ex' (c_letgo _) (fun r8 h8 => ?_)
  refine ⟨_, rfl, ?_, ?_, h8⟩
  · refine ⟨?_, ?_, ?_, ?_, ?_, ?_, ?_, ?_, ?_, ?_, ?_, ?_, ?_⟩ <;> (try simp (disch := decide) only [upd_eq, upd_ne]) <;> (try rw [h2.1 _ (by decide)]) <;> rfl
  · simp (disch := decide) only [upd_ne]; exact h2.2
theorem c_qcopy {v0 v1 : tQu} {px ps : Nat → Int} (hQ : cQ v1 q px ps) (hB : QB q px ps) : ∃ r, f_Qu_copyFrom v0 v1 = some r ∧ cQ r q px ps := by
  unfold f_Qu_copyFrom
  have loop : ∃ e, lp (fB_Qu_copyFrom_2 v0 v1) LF (0, gQu_ints v0) = some e ∧ (∀ k, k < 13 → e.2 k = gQu_ints v1 k) := by
    refine lp_inv (N := 13) (I := fun i t => t.1.toInt = (i : Int) ∧ (∀ k, k < i → t.2 k = gQu_ints v1 k)) (by decide) ?_ ?_ (i := 0) (by decide) ⟨rfl, fun k h => absurd h (by omega)⟩
    · rintro i hi ⟨j, f⟩ ih ⟨a0, a1⟩ go
      have a0 : j.toInt = (i : Int) := a0
      simp only [fB_Qu_copyFrom_2]
      rw [if_neg (lt_lit a0 (N := 13) rfl hi)]
      refine zlet_ex fun r8 h8 => ?_
      rw [Qu_become_lt _ a0 hi, Qu_number_lt _ a0 hi] at h8
      refine go _ ⟨toInt_succ a0 (by omega), ?_⟩
      rw [h8]; exact upd_lt a1
    · rintro ⟨j, f⟩ ih ⟨a0, a1⟩
      have a0 : j.toInt = ((13 : Nat) : Int) := a0
      simp only [fB_Qu_copyFrom_2]
      rw [if_pos (ge_lit a0 (N := 13) rfl (by omega))]
      exact ⟨_, rfl, a1⟩
  refine bind_ex' loop (fun q2 h2 => ?_)
  refine ⟨_, rfl, ?_, fun k hk => ?_⟩
  · intro k hk
    by_cases e : k = 13
    · subst e
      exact (congrArg Int32.toInt (upd_eq _ _ _)).trans (hQ.1 13 (by decide))
    · exact (congrArg Int32.toInt ((upd_ne _ _ e).trans (h2 k (by omega)))).trans (hQ.1 k hk)
  · have b13 := hB.2.2.2.2.2.2.2.2.2.2.2.2.1
    have h := hQ.2 k hk
    show (va_cpy (gQu_places v1) (gQu_places v0) 0 0 12 k).toInt = _ ∧ (va_cpy (gQu_strengths v1) (gQu_strengths v0) 0 0 12 k).toInt = _
    unfold va_cpy
    rw [if_pos (by omega), if_pos (by omega), show 0 + (k - 0) = k by omega]
    exact h
theorem cntI_b (hL : LB q L) (l : Nat) (hl : l ≤ 6) : 0 ≤ cntI L l ∧ cntI L l ≤ (l : Int) := by
  induction l with
  | zero => exact ⟨Int.le_refl _, Int.le_refl _⟩
  | succ l ih =>
    have := ih (by omega)
    unfold cntI
    rcases hL l (by omega) with h | h <;> omega
theorem c_count {v : tLi} (hL : LB q L) (hl : cL (gLi_fast v) (gLi_place v) (gLi_post v) (gLi_length v) L) : ∃ r, f_Li_count v = some r ∧ r.toInt = cntI L 6 := by
  have b : ∀ k, k < 6 → L (4 * k) = 0 ∨ L (4 * k) = 1 := by
    intro k hk
    rcases hL k hk with h | h <;> omega
  unfold f_Li_count
  have loop : ∃ e, lp (fB_Li_count_4 v) LF (0, 0) = some e ∧ e.1.toInt = cntI L 6 := by
    refine lp_inv (N := 6) (I := fun i t => t.2.toInt = (i : Int) ∧ t.1.toInt = cntI L i) (by decide) ?_ ?_ (i := 0) (by decide) ⟨rfl, rfl⟩
    · rintro i hi ⟨n, j⟩ ih ⟨a0, a1⟩ go
      have a0 : j.toInt = (i : Int) := a0
      have a1 : n.toInt = cntI L i := a1
      have hin : inb j 6 = true := inb_ok (by omega) (by omega)
      have hix : ix j = i := ix_eq a0
      have hf := (hl i hi).1
      have cb := cntI_b hL i (by omega)
      have nb : rp n (cntI L i) 6 := ⟨a1, by omega, by omega⟩
      simp only [fB_Li_count_4, if_pos hin, hix]
      rw [if_neg (lt_lit a0 (N := 6) rfl hi)]
      by_cases d : gLi_fast v i = 0
      · rw [if_pos d]
        have e : L (4 * i) = 0 := by rw [← hf, d]; rfl
        refine go _ ⟨toInt_succ a0 (by omega), ?_⟩
        show n.toInt = cntI L i + L (4 * i)
        omega
      · rw [if_neg d]
        have e : L (4 * i) = 1 := by
          rcases b i hi with h | h
          · exact absurd (Int32.toInt_inj.mp (by rw [hf, h]; rfl)) d
          · exact h
        refine go _ ⟨toInt_succ a0 (by omega), ?_⟩
        show (n + 1).toInt = cntI L i + L (4 * i)
        rw [(nb.add (rp.lit 1 1 (a := 1) rfl rfl) (by decide)).1, e]
    · rintro ⟨n, j⟩ ih ⟨a0, a1⟩
      have a0 : j.toInt = ((6 : Nat) : Int) := a0
      simp only [fB_Li_count_4]
      rw [if_pos (ge_lit a0 (N := 6) rfl (by omega))]
      exact ⟨_, rfl, a1⟩
  exact bind_ex' loop (fun q2 h2 => ⟨_, rfl, h2⟩)
end
/-! the reference's copies -/
theorem mS.of_eq {f g : Nat → Int64} {s : Nat → Int} (h : mS f s) (e : ∀ k, k < 13 → g k = f k) : mS g s := by
  obtain ⟨c0, c1, c2, c3, c4, c5, c6, c7, c8, c9, c10, c11, c12⟩ := h
  refine ⟨?_, ?_, ?_, ?_, ?_, ?_, ?_, ?_, ?_, ?_, ?_, ?_, ?_⟩ <;> rw [e _ (by decide)] <;> assumption
theorem mL.of_eq {f g : Nat → Int32} {L : Nat → Int} (h : mL f L) (e : ∀ k, k < 24 → g k = f k) : mL g L := by
  intro k hk
  rw [e k hk]; exact h k hk
section
variable {m : tMo} {q s L : Nat → Int}
theorem m_save (m : tMo) : ∃ r, f_Mo_save m = some r ∧ ((∀ k, k < 13 → r.1 k = gMo_ship m k) ∧ (∀ k, k < 24 → r.2 k = gMo_lines m k)) := by
  unfold f_Mo_save
  have l1 : ∃ e, lp (fB_Mo_save_2 m) LF (0, gMo_wasShip m) = some e ∧ (∀ k, k < 13 → e.2 k = gMo_ship m k) := by
    refine lp_inv (N := 13) (I := fun i t => t.1.toInt = (i : Int) ∧ (∀ k, k < i → t.2 k = gMo_ship m k)) (by decide) ?_ ?_ (i := 0) (by decide) ⟨rfl, fun k h => absurd h (by omega)⟩
    · rintro i hi ⟨j, f⟩ ih ⟨a0, a1⟩ go
      have a0 : j.toInt = (i : Int) := a0
      have hin : inb j 13 = true := inb_ok (by omega) (by omega)
      have hix : ix j = i := ix_eq a0
      simp only [fB_Mo_save_2, if_pos hin, hix]
      rw [if_neg (lt_lit a0 (N := 13) rfl hi)]
      exact go _ ⟨toInt_succ a0 (by omega), updL_lt a1⟩
    · rintro ⟨j, f⟩ ih ⟨a0, a1⟩
      have a0 : j.toInt = ((13 : Nat) : Int) := a0
      simp only [fB_Mo_save_2]
      rw [if_pos (ge_lit a0 (N := 13) rfl (by omega))]
      exact ⟨_, rfl, a1⟩
  have l2 : ∃ e, lp (fB_Mo_save_28 m) LF (0, gMo_wasLines m) = some e ∧ (∀ k, k < 24 → e.2 k = gMo_lines m k) := by
    refine lp_inv (N := 24) (I := fun i t => t.1.toInt = (i : Int) ∧ (∀ k, k < i → t.2 k = gMo_lines m k)) (by decide) ?_ ?_ (i := 0) (by decide) ⟨rfl, fun k h => absurd h (by omega)⟩
    · rintro i hi ⟨j, f⟩ ih ⟨a0, a1⟩ go
      have a0 : j.toInt = (i : Int) := a0
      have hin : inb j 24 = true := inb_ok (by omega) (by omega)
      have hix : ix j = i := ix_eq a0
      simp only [fB_Mo_save_28, if_pos hin, hix]
      rw [if_neg (lt_lit a0 (N := 24) rfl hi)]
      exact go _ ⟨toInt_succ a0 (by omega), upd_lt a1⟩
    · rintro ⟨j, f⟩ ih ⟨a0, a1⟩
      have a0 : j.toInt = ((24 : Nat) : Int) := a0
      simp only [fB_Mo_save_28]
      rw [if_pos (ge_lit a0 (N := 24) rfl (by omega))]
      exact ⟨_, rfl, a1⟩
  exact bind_ex' l1 (fun q2 h2 => bind_ex' l2 (fun q10 h10 => ⟨_, rfl, h2, h10⟩))
theorem m_back (m : tMo) : ∃ r, f_Mo_back m = some r ∧ ((∀ k, k < 13 → r.1 k = gMo_wasShip m k) ∧ (∀ k, k < 24 → r.2 k = gMo_wasLines m k)) := by
  unfold f_Mo_back
  have l1 : ∃ e, lp (fB_Mo_back_2 m) LF (0, gMo_ship m) = some e ∧ (∀ k, k < 13 → e.2 k = gMo_wasShip m k) := by
    refine lp_inv (N := 13) (I := fun i t => t.1.toInt = (i : Int) ∧ (∀ k, k < i → t.2 k = gMo_wasShip m k)) (by decide) ?_ ?_ (i := 0) (by decide) ⟨rfl, fun k h => absurd h (by omega)⟩
    · rintro i hi ⟨j, f⟩ ih ⟨a0, a1⟩ go
      have a0 : j.toInt = (i : Int) := a0
      have hin : inb j 13 = true := inb_ok (by omega) (by omega)
      have hix : ix j = i := ix_eq a0
      simp only [fB_Mo_back_2, if_pos hin, hix]
      rw [if_neg (lt_lit a0 (N := 13) rfl hi)]
      exact go _ ⟨toInt_succ a0 (by omega), updL_lt a1⟩
    · rintro ⟨j, f⟩ ih ⟨a0, a1⟩
      have a0 : j.toInt = ((13 : Nat) : Int) := a0
      simp only [fB_Mo_back_2]
      rw [if_pos (ge_lit a0 (N := 13) rfl (by omega))]
      exact ⟨_, rfl, a1⟩
  have l2 : ∃ e, lp (fB_Mo_back_28 m) LF (0, gMo_lines m) = some e ∧ (∀ k, k < 24 → e.2 k = gMo_wasLines m k) := by
    refine lp_inv (N := 24) (I := fun i t => t.1.toInt = (i : Int) ∧ (∀ k, k < i → t.2 k = gMo_wasLines m k)) (by decide) ?_ ?_ (i := 0) (by decide) ⟨rfl, fun k h => absurd h (by omega)⟩
    · rintro i hi ⟨j, f⟩ ih ⟨a0, a1⟩ go
      have a0 : j.toInt = (i : Int) := a0
      have hin : inb j 24 = true := inb_ok (by omega) (by omega)
      have hix : ix j = i := ix_eq a0
      simp only [fB_Mo_back_28, if_pos hin, hix]
      rw [if_neg (lt_lit a0 (N := 24) rfl hi)]
      exact go _ ⟨toInt_succ a0 (by omega), upd_lt a1⟩
    · rintro ⟨j, f⟩ ih ⟨a0, a1⟩
      have a0 : j.toInt = ((24 : Nat) : Int) := a0
      simp only [fB_Mo_back_28]
      rw [if_pos (ge_lit a0 (N := 24) rfl (by omega))]
      exact ⟨_, rfl, a1⟩
  exact bind_ex' l1 (fun q2 h2 => bind_ex' l2 (fun q10 h10 => ⟨_, rfl, h2, h10⟩))
theorem m_count {q : Nat → Int} (hL : LB q L) (hl : mL (gMo_lines m) L) : ∃ r, f_Mo_fastMany m = some r ∧ r.toInt = cntI L 6 := by
  unfold f_Mo_fastMany
  have loop : ∃ e, lp (fB_Mo_fastMany_4 m) LF (0, 0) = some e ∧ e.1.toInt = cntI L 6 := by
    refine lp_inv (N := 6) (I := fun i t => t.2.toInt = (i : Int) ∧ t.1.toInt = cntI L i) (by decide) ?_ ?_ (i := 0) (by decide) ⟨rfl, rfl⟩
    · rintro i hi ⟨n, j⟩ ih ⟨a0, a1⟩ go
      have a0 : j.toInt = (i : Int) := a0
      have a1 : n.toInt = cntI L i := a1
      obtain ⟨i1, j1⟩ := ix4 a0 hi
      have hf := hl (4 * i) (by omega)
      have cb := cntI_b hL i (by omega)
      have nb : rp n (cntI L i) 6 := ⟨a1, by omega, by omega⟩
      have lb : rp (gMo_lines m (4 * i)) (L (4 * i)) 1 := by
        refine ⟨hf, ?_, ?_⟩ <;> rcases hL i hi with h | h <;> omega
      simp only [fB_Mo_fastMany_4, if_pos j1, i1]
      rw [if_neg (lt_lit a0 (N := 6) rfl hi)]
      refine zlet_ex fun z8 h8 => ?_
      have k8 := nb.add lb (by decide)
      rw [← h8] at k8
      exact go _ ⟨toInt_succ a0 (by omega), k8.1⟩
    · rintro ⟨n, j⟩ ih ⟨a0, a1⟩
      have a0 : j.toInt = ((6 : Nat) : Int) := a0
      simp only [fB_Mo_fastMany_4]
      rw [if_pos (ge_lit a0 (N := 6) rfl (by omega))]
      exact ⟨_, rfl, a1⟩
  exact bind_ex' loop (fun q2 h2 => ⟨_, rfl, h2⟩)
end
