/-! THE PURE SIDE 37: texts, scanned -/
def scanI (P : Nat → Bool) : Nat → Nat → Nat
  | 0, k => k
  | d + 1, k => if P k = true then scanI P d (k + 1) else k
theorem scanI_s (P : Nat → Bool) (d k : Nat) : scanI P (d + 1) k = if P k = true then scanI P d (k + 1) else k := rfl
/-- the first place from k on that fails P, or n -/
def scan (P : Nat → Bool) (n k : Nat) : Nat := scanI P (n - k) k
theorem scanI_spec (P : Nat → Bool) (d k : Nat) : k ≤ scanI P d k ∧ scanI P d k ≤ k + d ∧ (∀ i, k ≤ i → i < scanI P d k → P i = true) ∧ (scanI P d k < k + d → ¬ P (scanI P d k) = true) := by
  induction d generalizing k with
  | zero => exact ⟨Nat.le_refl _, Nat.le_refl _, fun i h1 h2 => absurd h2 (by show ¬ i < k; omega), fun h => absurd h (by show ¬ k < k + 0; omega)⟩
  | succ d ih =>
    rw [scanI_s]
    by_cases p : P k = true
    · rw [if_pos p]
      obtain ⟨a1, a2, a3, a4⟩ := ih (k + 1)
      refine ⟨by omega, by omega, fun i h1 h2 => ?_, fun h => a4 (by omega)⟩
      by_cases e : i = k
      · subst e; exact p
      · exact a3 i (by omega) h2
    · rw [if_neg p]
      exact ⟨Nat.le_refl _, by omega, fun i h1 h2 => absurd h2 (by omega), fun _ => p⟩
theorem scan_spec (P : Nat → Bool) {n k : Nat} (hk : k ≤ n) : k ≤ scan P n k ∧ scan P n k ≤ n ∧ (∀ i, k ≤ i → i < scan P n k → P i = true) ∧ (scan P n k < n → ¬ P (scan P n k) = true) := by
  obtain ⟨a1, a2, a3, a4⟩ := scanI_spec P (n - k) k
  unfold scan
  exact ⟨a1, by omega, a3, fun h => a4 (by omega)⟩
def isB (T : Nat → Int) (i : Nat) : Bool := decide (T i = 32)
def isF (T : Nat → Int) (i : Nat) : Bool := decide (48 ≤ T i ∧ T i ≤ 57)
def isL (T : Nat → Int) (i : Nat) : Bool := decide (97 ≤ T i ∧ T i ≤ 122)
def TxB (n : Nat) (T : Nat → Int) : Prop := n ≤ 300 ∧ ∀ k, k < n → 0 ≤ T k ∧ T k ≤ 255
def cT (w : tTe) (n : Nat) (T : Nat → Int) : Prop := (gTe_ints w 1).toInt = (n : Int) ∧ ∀ k, k < n → (gTe_bytes w k).toInt = T k
def mT (i t : Nat → Int32) (n : Nat) (T : Nat → Int) : Prop := (i 11).toInt = (n : Int) ∧ ∀ k, k < n → (t k).toInt = T k
section
variable {n k : Nat} {T : Nat → Int} {w : tTe} {m : tMo}
theorem c_byte (hB : TxB n T) (h : cT w n T) {j : Int32} (hj : j.toInt = (k : Int)) (hk : k ≤ n) : ∃ r, f_Te_byteAt w j = some r ∧ ((k < n ∧ r.toInt = T k) ∨ (k = n ∧ r = 0)) := by
  have n300 := hB.1
  unfold f_Te_byteAt
  have c1 : ¬ j < 0 := by rw [Int32.lt_iff_toInt_lt, hj]; show ¬ (k : Int) < 0; omega
  rw [if_neg c1]
  by_cases d : k < n
  · have c2 : ¬ gTe_ints w 1 ≤ j := lt_lit hj h.1 d
    rw [if_neg c2, if_neg (lt_lit hj (N := 300) rfl (by omega)), if_pos (inb_ok (by omega) (by omega)), ix_eq hj]
    exact ⟨_, rfl, Or.inl ⟨d, h.2 k d⟩⟩
  · have c2 : gTe_ints w 1 ≤ j := ge_lit hj h.1 (by omega)
    rw [if_pos c2]
    exact ⟨_, rfl, Or.inr ⟨by omega, rfl⟩⟩
theorem c_blanks (hB : TxB n T) (h : cT w n T) {j : Int32} (hj : j.toInt = (k : Int)) (hk : k ≤ n) : ∃ r, f_Te_behindBlanks w j = some r ∧ r.toInt = (scan (isB T) n k : Int) := by
  obtain ⟨s1, s2, s3, s4⟩ := scan_spec (isB T) hk
  have n300 := hB.1
  generalize scan (isB T) n k = e at s1 s2 s3 s4
  unfold f_Te_behindBlanks
  have loop : ∃ r, lp (fB_Te_behindBlanks_2 w) LF j = some r ∧ r.toInt = (e : Int) := by
    refine lp_inv (N := e - k) (I := fun i t => t.toInt = ((k + i : Nat) : Int)) (by omega) ?_ ?_ (i := 0) (by omega) hj
    · intro i hi t ih a1 go
      have a1 : t.toInt = ((k + i : Nat) : Int) := a1
      obtain ⟨r, r1, r2⟩ := c_byte hB h a1 (by omega)
      have p := s3 (k + i) (by omega) (by omega)
      have p := of_decide_eq_true p
      simp only [fB_Te_behindBlanks_2]
      rw [if_neg (lt_lit a1 h.1 (by omega)), r1, Option.bind_some]
      rcases r2 with ⟨_, r2⟩ | ⟨x, _⟩
      · rw [if_pos (show r = 32 from Int32.toInt_inj.mp (by rw [r2, p]; rfl))]
        exact (have z := toInt_succ a1 (by omega); go _ z)
      · omega
    · intro t ih a1
      have a1 : t.toInt = ((k + (e - k) : Nat) : Int) := a1
      have a1 : t.toInt = (e : Int) := by rw [a1]; omega
      simp only [fB_Te_behindBlanks_2]
      by_cases d : e < n
      · obtain ⟨r, r1, r2⟩ := c_byte hB h a1 (by omega)
        have p := s4 d
        have p : ¬ T e = 32 := fun x => p (decide_eq_true x)
        rw [if_neg (lt_lit a1 h.1 d), r1, Option.bind_some]
        rcases r2 with ⟨_, r2⟩ | ⟨x, _⟩
        · rw [if_neg (show ¬ r = 32 from fun x => p (by rw [← r2, x]; rfl))]
          exact ⟨_, rfl, a1⟩
        · omega
      · rw [if_pos (ge_lit a1 h.1 (by omega))]
        exact ⟨_, rfl, a1⟩
  exact bind_ex' loop (fun q2 h2 => ⟨_, rfl, h2⟩)
theorem figI {r : Int32} {x : Int} (h : r.toInt = x) : okI (48 ≤ x ∧ x ≤ 57) (f_Te_isFigure r) := by
  subst h
  have h := rp.any r
  unfold f_Te_isFigure
  by_cases c1 : r < 48
  · have c1' := (h.lt (rp.lit 48 48 (a := 48) rfl rfl)).mp c1
    rw [if_pos c1]; exact Or.inr ⟨by omega, rfl⟩
  · have c1' : ¬ _ := fun g => c1 ((h.lt (rp.lit 48 48 (a := 48) rfl rfl)).mpr g)
    rw [if_neg c1]
    by_cases c2 : 57 < r
    · have c2' := ((rp.lit 57 57 (a := 57) rfl rfl).lt h).mp c2
      rw [if_pos c2]; exact Or.inr ⟨by omega, rfl⟩
    · have c2' : ¬ _ := fun g => c2 (((rp.lit 57 57 (a := 57) rfl rfl).lt h).mpr g)
      rw [if_neg c2]; exact Or.inl ⟨by omega, rfl⟩
theorem ltrI {r : Int32} {x : Int} (h : r.toInt = x) : okI (97 ≤ x ∧ x ≤ 122) (f_Te_isLetter r) := by
  subst h
  have h := rp.any r
  unfold f_Te_isLetter
  by_cases c1 : r < 97
  · have c1' := (h.lt (rp.lit 97 97 (a := 97) rfl rfl)).mp c1
    rw [if_pos c1]; exact Or.inr ⟨by omega, rfl⟩
  · have c1' : ¬ _ := fun g => c1 ((h.lt (rp.lit 97 97 (a := 97) rfl rfl)).mpr g)
    rw [if_neg c1]
    by_cases c2 : 122 < r
    · have c2' := ((rp.lit 122 122 (a := 122) rfl rfl).lt h).mp c2
      rw [if_pos c2]; exact Or.inr ⟨by omega, rfl⟩
    · have c2' : ¬ _ := fun g => c2 (((rp.lit 122 122 (a := 122) rfl rfl).lt h).mpr g)
      rw [if_neg c2]; exact Or.inl ⟨by omega, rfl⟩
theorem c_figures (hB : TxB n T) (h : cT w n T) {j : Int32} (hj : j.toInt = (k : Int)) (hk : k ≤ n) : ∃ r, f_Te_behindFigures w j = some r ∧ r.toInt = (scan (isF T) n k : Int) := by
  obtain ⟨s1, s2, s3, s4⟩ := scan_spec (isF T) hk
  have n300 := hB.1
  generalize scan (isF T) n k = e at s1 s2 s3 s4
  unfold f_Te_behindFigures
  have loop : ∃ r, lp (fB_Te_behindFigures_2 w) LF j = some r ∧ r.toInt = (e : Int) := by
    refine lp_inv (N := e - k) (I := fun i t => t.toInt = ((k + i : Nat) : Int)) (by omega) ?_ ?_ (i := 0) (by omega) hj
    · intro i hi t ih a1 go
      have a1 : t.toInt = ((k + i : Nat) : Int) := a1
      obtain ⟨r, r1, r2⟩ := c_byte hB h a1 (by omega)
      have p := s3 (k + i) (by omega) (by omega)
      have p := of_decide_eq_true p
      simp only [fB_Te_behindFigures_2]
      rw [if_neg (lt_lit a1 h.1 (by omega)), r1, Option.bind_some]
      rcases r2 with ⟨_, r2⟩ | ⟨x, _⟩
      · rcases figI r2 with ⟨_, g⟩ | ⟨g, _⟩
        · rw [g, if_neg (show ¬ (1 : Int32) = 0 by decide)]
          exact (have z := toInt_succ a1 (by omega); go _ z)
        · exact absurd p g
      · omega
    · intro t ih a1
      have a1 : t.toInt = ((k + (e - k) : Nat) : Int) := a1
      have a1 : t.toInt = (e : Int) := by rw [a1]; omega
      simp only [fB_Te_behindFigures_2]
      by_cases d : e < n
      · obtain ⟨r, r1, r2⟩ := c_byte hB h a1 (by omega)
        have p := s4 d
        have p : ¬ (48 ≤ T e ∧ T e ≤ 57) := fun x => p (decide_eq_true x)
        rw [if_neg (lt_lit a1 h.1 d), r1, Option.bind_some]
        rcases r2 with ⟨_, r2⟩ | ⟨x, _⟩
        · rcases figI r2 with ⟨g, _⟩ | ⟨_, g⟩
          · exact absurd g p
          · rw [g, if_pos rfl]; exact ⟨_, rfl, a1⟩
        · omega
      · rw [if_pos (ge_lit a1 h.1 (by omega))]
        exact ⟨_, rfl, a1⟩
  exact bind_ex' loop (fun q2 h2 => ⟨_, rfl, h2⟩)
theorem c_letters (hB : TxB n T) (h : cT w n T) {j : Int32} (hj : j.toInt = (k : Int)) (hk : k ≤ n) : ∃ r, f_Te_behindLetters w j = some r ∧ r.toInt = (scan (isL T) n k : Int) := by
  obtain ⟨s1, s2, s3, s4⟩ := scan_spec (isL T) hk
  have n300 := hB.1
  generalize scan (isL T) n k = e at s1 s2 s3 s4
  unfold f_Te_behindLetters
  have loop : ∃ r, lp (fB_Te_behindLetters_2 w) LF j = some r ∧ r.toInt = (e : Int) := by
    refine lp_inv (N := e - k) (I := fun i t => t.toInt = ((k + i : Nat) : Int)) (by omega) ?_ ?_ (i := 0) (by omega) hj
    · intro i hi t ih a1 go
      have a1 : t.toInt = ((k + i : Nat) : Int) := a1
      obtain ⟨r, r1, r2⟩ := c_byte hB h a1 (by omega)
      have p := s3 (k + i) (by omega) (by omega)
      have p := of_decide_eq_true p
      simp only [fB_Te_behindLetters_2]
      rw [if_neg (lt_lit a1 h.1 (by omega)), r1, Option.bind_some]
      rcases r2 with ⟨_, r2⟩ | ⟨x, _⟩
      · rcases ltrI r2 with ⟨_, g⟩ | ⟨g, _⟩
        · rw [g, if_neg (show ¬ (1 : Int32) = 0 by decide)]
          exact (have z := toInt_succ a1 (by omega); go _ z)
        · exact absurd p g
      · omega
    · intro t ih a1
      have a1 : t.toInt = ((k + (e - k) : Nat) : Int) := a1
      have a1 : t.toInt = (e : Int) := by rw [a1]; omega
      simp only [fB_Te_behindLetters_2]
      by_cases d : e < n
      · obtain ⟨r, r1, r2⟩ := c_byte hB h a1 (by omega)
        have p := s4 d
        have p : ¬ (97 ≤ T e ∧ T e ≤ 122) := fun x => p (decide_eq_true x)
        rw [if_neg (lt_lit a1 h.1 d), r1, Option.bind_some]
        rcases r2 with ⟨_, r2⟩ | ⟨x, _⟩
        · rcases ltrI r2 with ⟨g, _⟩ | ⟨_, g⟩
          · exact absurd g p
          · rw [g, if_pos rfl]; exact ⟨_, rfl, a1⟩
        · omega
      · rw [if_pos (ge_lit a1 h.1 (by omega))]
        exact ⟨_, rfl, a1⟩
  exact bind_ex' loop (fun q2 h2 => ⟨_, rfl, h2⟩)
/-- the reference: to the next that is no blank -/
theorem m_here (hB : TxB n T) (h : mT (gMo_ints m) (gMo_text m) n T) (hj : (gMo_ints m 13).toInt = (k : Int)) (hk : k ≤ n) : ∃ r, f_Mo_here m = some r ∧ ((r.2 13).toInt = (scan (isB T) n k : Int) ∧ (∀ x, x ≠ 13 → r.2 x = gMo_ints m x) ∧ ((scan (isB T) n k = n ∧ r.1 = -1) ∨ (scan (isB T) n k < n ∧ r.1.toInt = T (scan (isB T) n k)))) := by
  obtain ⟨s1, s2, s3, s4⟩ := scan_spec (isB T) hk
  have n300 := hB.1
  generalize scan (isB T) n k = e at s1 s2 s3 s4
  unfold f_Mo_here
  have loop : ∃ r, lp (fB_Mo_here_0 m) LF (gMo_ints m) = some r ∧ ((r 13).toInt = (e : Int) ∧ ∀ x, x ≠ 13 → r x = gMo_ints m x) := by
    refine lp_inv (N := e - k) (I := fun i t => (t 13).toInt = ((k + i : Nat) : Int) ∧ ∀ x, x ≠ 13 → t x = gMo_ints m x) (by omega) ?_ ?_ (i := 0) (by omega) ⟨hj, fun x _ => rfl⟩
    · rintro i hi t ih ⟨a1, a2⟩ go
      have a1 : (t 13).toInt = ((k + i : Nat) : Int) := a1
      have a2 : ∀ x, x ≠ 13 → t x = gMo_ints m x := a2
      have hn : (t 11).toInt = (n : Int) := by rw [a2 11 (by decide)]; exact h.1
      have p := s3 (k + i) (by omega) (by omega)
      have p := of_decide_eq_true p
      have r2 := h.2 (k + i) (by omega)
      simp only [fB_Mo_here_0]
      rw [if_neg (lt_lit a1 hn (by omega)), if_pos (inb_ok (by omega) (by omega)), ix_eq a1, if_pos (show gMo_text m (k + i) = 32 from Int32.toInt_inj.mp (by rw [r2, p]; rfl))]
      refine zlet_ex fun z9 h9 => ?_
      refine go _ ⟨?_, fun x hx => ?_⟩
      · show (upd t 13 z9 13).toInt = _
        rw [upd_eq, h9, toInt_succ a1 (by omega)]; omega
      · show upd t 13 z9 x = _
        rw [upd_ne _ _ hx]; exact a2 x hx
    · rintro t ih ⟨a1, a2⟩
      have a1 : (t 13).toInt = ((k + (e - k) : Nat) : Int) := a1
      have a1 : (t 13).toInt = (e : Int) := by rw [a1]; omega
      have a2 : ∀ x, x ≠ 13 → t x = gMo_ints m x := a2
      have hn : (t 11).toInt = (n : Int) := by rw [a2 11 (by decide)]; exact h.1
      simp only [fB_Mo_here_0]
      by_cases d : e < n
      · have p := s4 d
        have p : ¬ T e = 32 := fun x => p (decide_eq_true x)
        have r2 := h.2 e d
        rw [if_neg (lt_lit a1 hn d), if_pos (inb_ok (by omega) (by omega)), ix_eq a1, if_neg (show ¬ gMo_text m e = 32 from fun x => p (by rw [← r2, x]; rfl))]
        exact ⟨_, rfl, a1, a2⟩
      · rw [if_pos (ge_lit a1 hn (by omega))]
        exact ⟨_, rfl, a1, a2⟩
  refine bind_ex' loop (fun q2 h2 => ?_)
  obtain ⟨a1, a2⟩ := h2
  have hn : (q2 11).toInt = (n : Int) := by rw [a2 11 (by decide)]; exact h.1
  by_cases d : e < n
  · rw [if_neg (lt_lit a1 hn d), if_pos (inb_ok (by omega) (by omega)), ix_eq a1]
    exact ⟨_, rfl, a1, a2, Or.inr ⟨d, h.2 e d⟩⟩
  · rw [if_pos (ge_lit a1 hn (by omega))]
    exact ⟨_, rfl, a1, a2, Or.inl ⟨by omega, rfl⟩⟩
end
