/-! THE PURE SIDE 41: a number read by the class -/
section
variable {n k : Nat} {T : Nat → Int} {w : tTe}
theorem c_number {v : tRe} {c i np pn : Nat} {px S : Nat → Int} {x : Int} (hB : TxB n T) (h : cT w n T) (hj : (gRe_ints v 7).toInt = (k : Int)) (hk : k ≤ n) (hc : c < 11) (hi : i < 3) (hx : c = 0 → i = 1 → (gRe_row v 0).toInt = x ∧ 0 ≤ x ∧ x ≤ 9999)
    (h12 : np ≤ 12) (h1 : (gQu_ints (gRe_quayDraft v) 13).toInt = (np : Int)) (h2 : ∀ k, k < np → (gQu_places (gRe_quayDraft v) k).toInt = px k) (h20 : pn ≤ 20) (h3 : (gPl_ints (gRe_planDraft v) 0).toInt = (pn : Int)) (h4 : ∀ k, k < pn → (gPl_seconds (gRe_planDraft v) k).toInt = S k) : ∃ r, f_Re_readNumber v w (Int32.ofNat c) (Int32.ofNat i) = some r ∧ ((nF T n k (cLo c i x) (hiT c i) ≠ 0 ∧ ∃ f a : Int32, f.toInt = nF T n k (cLo c i x) (hiT c i) ∧ a.toInt = (nA T n k : Int) ∧ r = (upd (upd (gRe_ints v) 3 f) 4 a, gRe_row v)) ∨ (nF T n k (cLo c i x) (hiT c i) = 0 ∧ i = 0 ∧ takP c np px pn S (nV T n k) ∧ ∃ a : Int32, a.toInt = (nA T n k : Int) ∧ r = (upd (upd (gRe_ints v) 3 4) 4 a, gRe_row v)) ∨ (nF T n k (cLo c i x) (hiT c i) = 0 ∧ ¬ (i = 0 ∧ takP c np px pn S (nV T n k)) ∧ ∃ e z : Int32, e.toInt = (nE T n k : Int) ∧ z.toInt = nV T n k ∧ r = (upd (gRe_ints v) 7 e, upd (gRe_row v) i z))) := by
  obtain ⟨b1, b2, b3, b4⟩ := nA_b T hk
  have fig := nE_fig T hk
  have n300 := hB.1
  unfold f_Re_readNumber
  refine bind_ex' (c_blanks hB h hj hk) (fun r1 g1 => ?_)
  have g1 : r1.toInt = (nA T n k : Int) := g1
  refine bind_ex' (c_figures hB h g1 b2) (fun r2 g2 => ?_)
  have g2 : r2.toInt = (nE T n k : Int) := g2
  have q1 := rp.of 300 g1 (by omega) (by omega)
  have q2 := rp.of 300 g2 (by omega) (by omega)
  by_cases e : nE T n k = nA T n k
  · rw [if_pos (show r2 = r1 from Int32.toInt_inj.mp (by rw [g1, g2, e]))]
    have f1 : nF T n k (cLo c i x) (hiT c i) = 1 := by unfold nF; rw [if_pos e]
    rw [f1]
    exact ⟨_, rfl, Or.inl ⟨by decide, 1, r1, rfl, g1, rfl⟩⟩
  · rw [if_neg (show ¬ r2 = r1 from fun y => e (by have := congrArg Int32.toInt y; rw [g1, g2] at this; omega))]
    have f2 : nF T n k (cLo c i x) (hiT c i) = if nE T n k - nA T n k ≤ 4 ∧ cLo c i x ≤ nV T n k ∧ nV T n k ≤ hiT c i then 0 else 2 := by unfold nF; rw [if_neg e]
    have nv : nV T n k = valI T (nA T n k) (nE T n k - nA T n k) := rfl
    generalize nF T n k (cLo c i x) (hiT c i) = F at f2 ⊢
    generalize nV T n k = V at f2 nv ⊢
    generalize nA T n k = a at *
    generalize nE T n k = b at *
    have loop : ∃ r, lp (fB_Re_readNumber_40 w r1 r2) LF (0, r1) = some r ∧ (b - a ≤ 4 → r.1.toInt = valI T a (b - a)) := by
      obtain ⟨N, hN⟩ : ∃ N, N = min (b - a) 4 := ⟨_, rfl⟩
      refine lp_inv (N := N) (I := fun i t => t.2.toInt = ((a + i : Nat) : Int) ∧ t.1.toInt = valI T a i) (by omega) ?_ ?_ (i := 0) (by omega) ⟨g1, rfl⟩
      · rintro i hi ⟨z, t⟩ ih ⟨a1, a2⟩ go
        have a1 : t.toInt = ((a + i : Nat) : Int) := a1
        have a2 : z.toInt = valI T a i := a2
        have vs := valI_s T a i
        have vb := valI_b4 T a i (by omega) (fun j hj => fig (a + j) (by omega) (by omega))
        obtain ⟨r, r1', r2'⟩ := c_byte hB h a1 (by omega)
        have p := fig (a + i) (by omega) (by omega)
        have c2 : ¬ r1 + 4 ≤ t := fun y => by
          have := ((q1.add (rp.lit 4 4 (a := 4) rfl rfl) (by decide)).le (rp.of 300 a1 (by omega) (by omega))).mp y; omega
        simp only [fB_Re_readNumber_40]
        rw [if_neg (lt_lit a1 g2 (by omega)), if_neg c2, r1', Option.bind_some]
        refine zlet_ex fun z13 h13 => ?_
        rcases r2' with ⟨_, r2'⟩ | ⟨y, _⟩
        · have kz := ((((rp.of 9999 a2 (by omega) (by omega)).mul (rp.lit 10 10 (a := 10) rfl rfl) (by decide)).add (rp.of 57 r2' (by omega) (by omega)) (by decide)).sub (rp.lit 48 48 (a := 48) rfl rfl) (by decide)).1
          have z := toInt_succ a1 (by omega)
          refine go _ ⟨z, ?_⟩
          show z13.toInt = _
          rw [h13, kz, vs]
        · omega
      · rintro ⟨z, t⟩ ih ⟨a1, a2⟩
        have a1 : t.toInt = ((a + N : Nat) : Int) := a1
        have a2 : z.toInt = valI T a N := a2
        have res : b - a ≤ 4 → z.toInt = valI T a (b - a) := fun h4 => by
          have : b - a = N := by omega
          rw [this]; exact a2
        simp only [fB_Re_readNumber_40]
        by_cases d : r2 ≤ t
        · rw [if_pos d]; exact ⟨_, rfl, res⟩
        · have d' : ¬ _ := fun y => d ((q2.le (rp.of 300 a1 (by omega) (by omega))).mpr y)
          rw [if_neg d, if_pos (((q1.add (rp.lit 4 4 (a := 4) rfl rfl) (by decide)).le (rp.of 300 a1 (by omega) (by omega))).mpr (by omega))]
          exact ⟨_, rfl, res⟩
    refine bind_ex' loop (fun q6 h6 => ?_)
    have z3 := q2.sub q1 (by decide)
    by_cases d : 4 < r2 - r1
    · have d' := ((rp.lit 4 4 (a := 4) rfl rfl).lt z3).mp d
      have f : F = 2 := by rw [f2, if_neg (fun y => by omega)]
      rw [if_pos d]
      exact ⟨_, rfl, Or.inl ⟨by rw [f]; decide, 2, r1, f.symm, g1, rfl⟩⟩
    · have d' : ¬ _ := fun y => d (((rp.lit 4 4 (a := 4) rfl rfl).lt z3).mpr y)
      have hv : q6.1.toInt = V := (h6 (by omega)).trans nv.symm
      have vb := valI_b4 T a (b - a) (by omega) (fun j hj => fig (a + j) (by omega) (by omega))
      rw [if_neg d]
      refine bind_ex' (c_out hc hi hx (rp.of 9999 hv (by omega) (by omega))) (fun r16 h16 => ?_)
      rcases h16 with ⟨y, g⟩ | ⟨y, g⟩
      · rw [g, if_neg (show ¬ (1 : Int32) = 0 by decide)]
        have f : F = 2 := by rw [f2, if_neg (fun z => y z.2)]
        exact ⟨_, rfl, Or.inl ⟨by rw [f]; decide, 2, r1, f.symm, g1, rfl⟩⟩
      · rw [g, if_pos rfl]
        have y := Classical.byContradiction y
        have f : F = 0 := by rw [f2, if_pos ⟨by omega, y⟩]
        have e0 : Int32.ofNat i = 0 ↔ i = 0 := ofN_eq (b := 0) (by omega) (by decide)
        have iI : (Int32.ofNat i).toInt = (i : Int) := Int32.toInt_ofNat_of_lt (by omega)
        have hin : inb (Int32.ofNat i) 3 = true := inb_ok (by omega) (by omega)
        rw [if_pos hin, ix_eq iI]
        by_cases i0 : i = 0
        · rw [if_pos (show Int32.ofNat i = 0 from e0.mpr i0)]
          refine bind_ex' (c_taken hc h12 h1 h2 h20 h3 h4 hv) (fun r20 h20 => ?_)
          rcases h20 with ⟨t, g⟩ | ⟨t, g⟩
          · rw [g, if_neg (show ¬ (1 : Int32) = 0 by decide)]
            exact ⟨_, rfl, Or.inr (Or.inl ⟨f, i0, t, r1, g1, rfl⟩)⟩
          · rw [g, if_pos rfl]
            exact ⟨_, rfl, Or.inr (Or.inr ⟨f, fun z => t z.2, r2, q6.1, g2, hv, rfl⟩)⟩
        · rw [if_neg (show ¬ Int32.ofNat i = 0 from fun z => i0 (e0.mp z))]
          exact ⟨_, rfl, Or.inr (Or.inr ⟨f, fun z => i0 z.1, r2, q6.1, g2, hv, rfl⟩)⟩
end
