/-! THE PURE SIDE 39: numbers of a text -/
def valI (T : Nat → Int) (a : Nat) : Nat → Int
  | 0 => 0
  | d + 1 => valI T a d * 10 + T (a + d) - 48
theorem valI_s (T : Nat → Int) (a d : Nat) : valI T a (d + 1) = valI T a d * 10 + T (a + d) - 48 := rfl
theorem valI_b (T : Nat → Int) (a d : Nat) (h4 : d ≤ 4) (h : ∀ i, i < d → 48 ≤ T (a + i) ∧ T (a + i) ≤ 57) : 0 ≤ valI T a d ∧ valI T a d + 1 ≤ 10 ^ d := by
  induction d with
  | zero => exact ⟨Int.le_refl _, (show (0 : Int) + 1 ≤ 10 ^ 0 by decide)⟩
  | succ d ih =>
    have ih := ih (by omega) (fun i hi => h i (by omega))
    have := h d (by omega)
    rw [valI_s, Int.pow_succ]
    generalize (10 : Int) ^ d = z at ih ⊢
    omega
theorem valI_b4 (T : Nat → Int) (a d : Nat) (h4 : d ≤ 4) (h : ∀ i, i < d → 48 ≤ T (a + i) ∧ T (a + i) ≤ 57) : 0 ≤ valI T a d ∧ valI T a d ≤ 9999 := by
  have b := valI_b T a d h4 h
  have e : d = 0 ∨ d = 1 ∨ d = 2 ∨ d = 3 ∨ d = 4 := by omega
  rcases e with e | e | e | e | e <;> subst e <;> omega
def nA (T : Nat → Int) (n k : Nat) : Nat := scan (isB T) n k
def nE (T : Nat → Int) (n k : Nat) : Nat := scan (isF T) n (nA T n k)
def nV (T : Nat → Int) (n k : Nat) : Int := valI T (nA T n k) (nE T n k - nA T n k)
/-- the fault of a number, 0: none -/
def nF (T : Nat → Int) (n k : Nat) (lo hi : Int) : Int := if nE T n k = nA T n k then 1 else if nE T n k - nA T n k ≤ 4 ∧ lo ≤ nV T n k ∧ nV T n k ≤ hi then 0 else 2
theorem nA_b (T : Nat → Int) {n k : Nat} (hk : k ≤ n) : k ≤ nA T n k ∧ nA T n k ≤ n ∧ nA T n k ≤ nE T n k ∧ nE T n k ≤ n := by
  obtain ⟨a1, a2, -, -⟩ := scan_spec (isB T) hk
  obtain ⟨b1, b2, -, -⟩ := scan_spec (isF T) a2
  exact ⟨a1, a2, b1, b2⟩
theorem nE_fig (T : Nat → Int) {n k : Nat} (hk : k ≤ n) : ∀ i, nA T n k ≤ i → i < nE T n k → 48 ≤ T i ∧ T i ≤ 57 := fun i h1 h2 => of_decide_eq_true ((scan_spec (isF T) (scan_spec (isB T) hk).2.1).2.2.1 i h1 h2)
theorem nF_0 {T : Nat → Int} {n k : Nat} (hk : k ≤ n) {lo hi : Int} (h : nF T n k lo hi = 0) : nA T n k < nE T n k ∧ nE T n k - nA T n k ≤ 4 ∧ lo ≤ nV T n k ∧ nV T n k ≤ hi ∧ 0 ≤ nV T n k ∧ nV T n k ≤ 9999 := by
  obtain ⟨b1, b2, b3, b4⟩ := nA_b T hk
  unfold nF at h
  by_cases e : nE T n k = nA T n k
  · rw [if_pos e] at h; exact absurd h (by decide)
  · rw [if_neg e] at h
    by_cases g : nE T n k - nA T n k ≤ 4 ∧ lo ≤ nV T n k ∧ nV T n k ≤ hi
    · have v := valI_b4 T (nA T n k) (nE T n k - nA T n k) g.1 (fun i hi => nE_fig T hk _ (by omega) (by omega))
      exact ⟨by omega, g.1, g.2.1, g.2.2, v.1, v.2⟩
    · rw [if_neg g] at h; exact absurd h (by decide)
section
variable {n k : Nat} {T : Nat → Int} {w : tTe} {m : tMo}
theorem m_takeNumber (hB : TxB n T) (h : mT (gMo_ints m) (gMo_text m) n T) (hj : (gMo_ints m 13).toInt = (k : Int)) (hk : k ≤ n) {p1 p2 : Int32} {lo hi : Int} (h1 : p1.toInt = lo) (h2 : p2.toInt = hi) : ∃ r, f_Mo_takeNumber m p1 p2 = some r ∧ (r.1.toInt = nF T n k lo hi ∧ (∀ x, x ≠ 12 → x ≠ 13 → x ≠ 16 → x ≠ 17 → r.2 x = gMo_ints m x) ∧ (nF T n k lo hi ≠ 0 → (r.2 12).toInt = (nA T n k : Int)) ∧ (nF T n k lo hi = 0 → r.2 12 = gMo_ints m 12 ∧ (r.2 13).toInt = (nE T n k : Int) ∧ (r.2 16).toInt = nV T n k ∧ (r.2 17).toInt = (nA T n k : Int))) := by
  obtain ⟨b1, b2, b3, b4⟩ := nA_b T hk
  have fig := nE_fig T hk
  have n300 := hB.1
  have s4 := (scan_spec (isF T) b2).2.2.2
  have s4 : nE T n k < n → ¬ isF T (nE T n k) = true := s4
  unfold f_Mo_takeNumber
  refine bind_ex' (m_here hB h hj hk) (fun r1 h1' => ?_)
  obtain ⟨u1, u2, u3⟩ := h1'
  have u1 : (r1.2 13).toInt = (nA T n k : Int) := u1
  have u3 : (nA T n k = n ∧ r1.1 = -1) ∨ (nA T n k < n ∧ r1.1.toInt = T (nA T n k)) := u3
  have hn1 : (r1.2 11).toInt = (n : Int) := by rw [u2 11 (by decide)]; exact h.1
  have mi := m_inI r1.1 (rq.lit 48 48 (a := 48) rfl rfl) (rq.lit 57 57 (a := 57) rfl rfl)
  by_cases e : nE T n k = nA T n k
  · have f1 : nF T n k lo hi = 1 := by unfold nF; rw [if_pos e]
    have nf : ¬ (48 ≤ r1.1.toInt ∧ r1.1.toInt ≤ 57) := by
      rcases u3 with ⟨_, u3⟩ | ⟨g, u3⟩
      · rw [u3]; decide
      · rw [u3, ← e]
        exact fun x => s4 (by omega) (decide_eq_true x)
    rcases mi with ⟨g, _⟩ | ⟨_, g⟩
    · exact absurd g nf
    · rw [g, if_pos rfl, f1]
      refine ⟨_, rfl, rfl, fun x x1 x2 x3 x4 => ?_, fun _ => ?_, fun x => absurd x (by decide)⟩
      · show upd r1.2 12 (r1.2 13) x = _
        rw [upd_ne _ _ x1]; exact u2 x x2
      · show (upd r1.2 12 (r1.2 13) 12).toInt = _
        rw [upd_eq]; exact u1
  · have lt : nA T n k < nE T n k := by omega
    have pf : 48 ≤ r1.1.toInt ∧ r1.1.toInt ≤ 57 := by
      rcases u3 with ⟨g, _⟩ | ⟨g, u3⟩
      · omega
      · rw [u3]; exact fig _ (Nat.le_refl _) lt
    rcases mi with ⟨_, g⟩ | ⟨g, _⟩
    · rw [g, if_neg (show ¬ (1 : Int32) = 0 by decide)]
      have f2 : nF T n k lo hi = if nE T n k - nA T n k ≤ 4 ∧ lo ≤ nV T n k ∧ nV T n k ≤ hi then 0 else 2 := by unfold nF; rw [if_neg e]
      have nv : nV T n k = valI T (nA T n k) (nE T n k - nA T n k) := rfl
      generalize nF T n k lo hi = F at f2 ⊢
      generalize nV T n k = V at f2 nv ⊢
      generalize nA T n k = a at *
      generalize nE T n k = b at *
      have loop : ∃ r, lp (fB_Mo_takeNumber_42 m) LF (upd (upd r1.2 17 (r1.2 13)) 16 0) = some r ∧ ((r 13).toInt = (b : Int) ∧ (r 17).toInt = (a : Int) ∧ (0 ≤ (r 16).toInt ∧ (r 16).toInt ≤ 1000009) ∧ (b - a ≤ 4 → (r 16).toInt = valI T a (b - a)) ∧ ∀ x, x ≠ 13 → x ≠ 16 → x ≠ 17 → r x = r1.2 x) := by
        refine lp_inv (N := b - a) (I := fun i t => (t 13).toInt = ((a + i : Nat) : Int) ∧ (t 17).toInt = (a : Int) ∧ (0 ≤ (t 16).toInt ∧ (t 16).toInt ≤ 1000009) ∧ (i ≤ 4 → (t 16).toInt = valI T a i) ∧ ∀ x, x ≠ 13 → x ≠ 16 → x ≠ 17 → t x = r1.2 x) (by omega) ?_ ?_ (i := 0) (by omega) ?_
        · rintro i hi t ih ⟨a1, a2, a3, a4, a5⟩ go
          have a1 : (t 13).toInt = ((a + i : Nat) : Int) := a1
          have a2 : (t 17).toInt = (a : Int) := a2
          have a3 : 0 ≤ (t 16).toInt ∧ (t 16).toInt ≤ 1000009 := a3
          have a4 : i ≤ 4 → (t 16).toInt = valI T a i := a4
          have a5 : ∀ x, x ≠ 13 → x ≠ 16 → x ≠ 17 → t x = r1.2 x := a5
          have hn : (t 11).toInt = (n : Int) := by rw [a5 11 (by decide) (by decide) (by decide)]; exact hn1
          have p := fig (a + i) (by omega) (by omega)
          have r2 := h.2 (a + i) (by omega)
          have rt := rp.of 57 r2 (by omega) (by omega)
          have rz := rp.of 1000009 (a := t 16) rfl (by omega) (by omega)
          have vs := valI_s T a i
          have vb := fun h4 : i ≤ 4 => valI_b4 T a i h4 (fun j hj => fig (a + j) (by omega) (by omega))
          have mi := m_in rt.long (rq.lit 48 48 (a := 48) rfl rfl) (rq.lit 57 57 (a := 57) rfl rfl)
          rw [if_pos p] at mi
          have hin : inb (t 13) 300 = true := inb_ok (by omega) (by omega)
          simp only [fB_Mo_takeNumber_42, if_pos hin, ix_eq a1]
          rw [if_neg (lt_lit a1 hn (by omega)), mi, if_neg (show ¬ (1 : Int32) = 0 by decide)]
          have fin : ∀ (w14 z18 : Int32), z18 = t 13 + 1 → (0 ≤ w14.toInt ∧ w14.toInt ≤ 1000009) → (i + 1 ≤ 4 → w14.toInt = valI T a (i + 1)) → ∃ r, ih (upd (upd t 16 w14) 13 z18) = some r ∧ ((r 13).toInt = (b : Int) ∧ (r 17).toInt = (a : Int) ∧ (0 ≤ (r 16).toInt ∧ (r 16).toInt ≤ 1000009) ∧ (b - a ≤ 4 → (r 16).toInt = valI T a (b - a)) ∧ ∀ x, x ≠ 13 → x ≠ 16 → x ≠ 17 → r x = r1.2 x) := by
            intro w14 z18 h18 g1 g2
            refine go _ ⟨?_, ?_, ?_, ?_, fun x x1 x2 x3 => ?_⟩
            · show (upd (upd t 16 w14) 13 z18 13).toInt = _
              rw [upd_eq, h18, toInt_succ a1 (by omega)]; omega
            · show (upd (upd t 16 w14) 13 z18 17).toInt = _
              rw [upd_ne _ _ (by decide), upd_ne _ _ (by decide)]; exact a2
            · show 0 ≤ (upd (upd t 16 w14) 13 z18 16).toInt ∧ (upd (upd t 16 w14) 13 z18 16).toInt ≤ 1000009
              rw [upd_ne _ _ (by decide), upd_eq]; exact g1
            · show i + 1 ≤ 4 → (upd (upd t 16 w14) 13 z18 16).toInt = _
              rw [upd_ne _ _ (by decide), upd_eq]; exact g2
            · show upd (upd t 16 w14) 13 z18 x = _
              rw [upd_ne _ _ x1, upd_ne _ _ x2]; exact a5 x x1 x2 x3
          by_cases c : t 16 ≤ 100000
          · have c' := (rz.le (rp.lit 100000 100000 (a := 100000) rfl rfl)).mp c
            rw [if_pos c, Option.bind_some]
            refine zlet_ex fun z18 h18 => ?_
            have kz := ((((rp.lit 10 10 (a := 10) rfl rfl).mul (rz.tight 100000 (by omega) c') (by decide)).add rt (by decide)).sub (rp.lit 48 48 (a := 48) rfl rfl) (by decide)).1
            refine fin _ _ h18 (by rw [kz]; omega) (fun h4 => ?_)
            have := a4 (by omega)
            rw [kz, vs, ← this]; omega
          · have c' : ¬ _ := fun x => c ((rz.le (rp.lit 100000 100000 (a := 100000) rfl rfl)).mpr x)
            rw [if_neg c, Option.bind_some]
            refine zlet_ex fun z18 h18 => ?_
            refine fin _ _ h18 a3 (fun h4 => ?_)
            have := a4 (by omega)
            have := vb (by omega)
            omega
        · rintro t ih ⟨a1, a2, a3, a4, a5⟩
          have a1 : (t 13).toInt = ((a + (b - a) : Nat) : Int) := a1
          have a1 : (t 13).toInt = (b : Int) := by rw [a1]; omega
          have a5 : ∀ x, x ≠ 13 → x ≠ 16 → x ≠ 17 → t x = r1.2 x := a5
          have hn : (t 11).toInt = (n : Int) := by rw [a5 11 (by decide) (by decide) (by decide)]; exact hn1
          simp only [fB_Mo_takeNumber_42]
          by_cases d : b < n
          · have p : ¬ (48 ≤ T b ∧ T b ≤ 57) := fun x => s4 d (decide_eq_true x)
            have tb := hB.2 b d
            have mi := m_in (rp.of 255 (h.2 b d) (by omega) (by omega)).long (rq.lit 48 48 (a := 48) rfl rfl) (rq.lit 57 57 (a := 57) rfl rfl)
            rw [if_neg p] at mi
            rw [if_neg (lt_lit a1 hn d), if_pos (inb_ok (by omega) (by omega)), ix_eq a1, mi, if_pos rfl]
            exact ⟨_, rfl, a1, a2, a3, a4, a5⟩
          · rw [if_pos (ge_lit a1 hn (by omega))]
            exact ⟨_, rfl, a1, a2, a3, a4, a5⟩
        · refine ⟨?_, ?_, ?_, fun _ => ?_, fun x x1 x2 x3 => ?_⟩
          · show (upd (upd r1.2 17 (r1.2 13)) 16 0 13).toInt = _
            rw [upd_ne _ _ (by decide), upd_ne _ _ (by decide)]; exact u1
          · show (upd (upd r1.2 17 (r1.2 13)) 16 0 17).toInt = _
            rw [upd_ne _ _ (by decide), upd_eq]; exact u1
          · show 0 ≤ (upd (upd r1.2 17 (r1.2 13)) 16 0 16).toInt ∧ (upd (upd r1.2 17 (r1.2 13)) 16 0 16).toInt ≤ 1000009
            rw [upd_eq]; decide
          · show (upd (upd r1.2 17 (r1.2 13)) 16 0 16).toInt = 0
            rw [upd_eq]; rfl
          · show upd (upd r1.2 17 (r1.2 13)) 16 0 x = _
            rw [upd_ne _ _ x2, upd_ne _ _ x3]
      refine bind_ex' loop (fun q6 h6 => ?_)
      obtain ⟨k1, k2, k3, k4, k5⟩ := h6
      have oth : ∀ x, x ≠ 12 → x ≠ 13 → x ≠ 16 → x ≠ 17 → q6 x = gMo_ints m x := fun x x1 x2 x3 x4 => (k5 x x2 x3 x4).trans (u2 x x2)
      have z3 := (rp.of 300 k1 (by omega) (by omega)).sub (rp.of 300 k2 (by omega) (by omega)) (by decide)
      have bad : F = 2 → ∃ r, (zlet (f_Mo_fails (q6, (gMo_told m), (gMo_postX m), (gMo_postStrong m), (gMo_atRow m), (gMo_heights m), (gMo_ship m), (gMo_lines m), (gMo_text m), (gMo_said m), (gMo_readTold m), (gMo_readX m), (gMo_readStrong m), (gMo_readRow m), (gMo_parting m), (gMo_wasShip m), (gMo_wasLines m), (gMo_worst m), (gMo_logRow m), (gMo_images m), (gMo_isKept m)) 2 (q6 17)) (fun (r20 : Int32 × (Nat → Int32)) => (some ((r20.1), (r20.2))))) = some r ∧ (r.1.toInt = F ∧ (∀ x, x ≠ 12 → x ≠ 13 → x ≠ 16 → x ≠ 17 → r.2 x = gMo_ints m x) ∧ (F ≠ 0 → (r.2 12).toInt = (a : Int)) ∧ (F = 0 → r.2 12 = gMo_ints m 12 ∧ (r.2 13).toInt = (b : Int) ∧ (r.2 16).toInt = V ∧ (r.2 17).toInt = (a : Int))) := by
        intro f
        refine ⟨_, rfl, f.symm, fun x x1 x2 x3 x4 => ?_, fun _ => ?_, fun x => absurd (f.symm.trans x) (by decide)⟩
        · show upd q6 12 (q6 17) x = _
          rw [upd_ne _ _ x1]; exact oth x x1 x2 x3 x4
        · show (upd q6 12 (q6 17) 12).toInt = _
          rw [upd_eq]; exact k2
      by_cases c : 4 < q6 13 - q6 17
      · have c' := ((rp.lit 4 4 (a := 4) rfl rfl).lt z3).mp c
        rw [if_pos c]
        exact bad (by rw [f2, if_neg (fun x => by omega)])
      · have c' : ¬ _ := fun x => c (((rp.lit 4 4 (a := 4) rfl rfl).lt z3).mpr x)
        rw [if_neg c]
        have v := k4 (by omega)
        have mi := m_in (rp.of 1000009 (a := q6 16) rfl (by omega) (by omega)).long (rp.any p1).long (rp.any p2).long
        rw [h1, h2, v, ← nv] at mi
        rw [mi]
        by_cases g : lo ≤ V ∧ V ≤ hi
        · rw [if_pos g, if_neg (show ¬ (1 : Int32) = 0 by decide)]
          have f : F = 0 := by rw [f2, if_pos ⟨by omega, g⟩]
          refine ⟨_, rfl, f.symm, oth, fun x => absurd f x, fun _ => ⟨(k5 12 (by decide) (by decide) (by decide)).trans (u2 12 (by decide)), k1, v.trans nv.symm, k2⟩⟩
        · rw [if_neg g, if_pos rfl]
          exact bad (by rw [f2, if_neg (fun x => g x.2)])
    · exact absurd pf g
end
