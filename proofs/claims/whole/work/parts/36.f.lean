/-! THE PURE SIDE 42: the numbers of a clause -/
def pN (T : Nat → Int) (n k : Nat) : Nat → Nat
  | 0 => k
  | j + 1 => nE T n (pN T n k j)
theorem pN_s (T : Nat → Int) (n k j : Nat) : pN T n k (j + 1) = nE T n (pN T n k j) := rfl
theorem pN_le (T : Nat → Int) {n k : Nat} (hk : k ≤ n) (j : Nat) : k ≤ pN T n k j ∧ pN T n k j ≤ n := by
  induction j with
  | zero => exact ⟨Nat.le_refl _, hk⟩
  | succ j ih =>
    have := nA_b T ih.2
    rw [pN_s]; omega
/-- the first fault of the first N numbers -/
def nfT (T : Nat → Int) (n k c : Nat) (tak : Bool) : Nat → Option (Int × Nat)
  | 0 => none
  | N + 1 => match nfT T n k c tak N with
    | some y => some y
    | none => if nF T n (pN T n k N) (cLo c N (nV T n k)) (hiT c N) = 0 then (if N = 0 ∧ tak = true then some (4, nA T n (pN T n k N)) else none) else some (nF T n (pN T n k N) (cLo c N (nV T n k)) (hiT c N), nA T n (pN T n k N))
theorem nfT_s (T : Nat → Int) (n k c : Nat) (tak : Bool) (N : Nat) : nfT T n k c tak (N + 1) = match nfT T n k c tak N with
    | some y => some y
    | none => if nF T n (pN T n k N) (cLo c N (nV T n k)) (hiT c N) = 0 then (if N = 0 ∧ tak = true then some (4, nA T n (pN T n k N)) else none) else some (nF T n (pN T n k N) (cLo c N (nV T n k)) (hiT c N), nA T n (pN T n k N)) := rfl
theorem nfT_some {T : Nat → Int} {n k c : Nat} {tak : Bool} {N : Nat} {y : Int × Nat} (h : nfT T n k c tak N = some y) (j : Nat) : nfT T n k c tak (N + j) = some y := by
  induction j with
  | zero => exact h
  | succ j ih =>
    show nfT T n k c tak (N + j + 1) = _
    rw [nfT_s, ih]
theorem nfT_0 {T : Nat → Int} {n k c : Nat} {tak : Bool} {N : Nat} (h : nfT T n k c tak (N + 1) = none) : nfT T n k c tak N = none ∧ nF T n (pN T n k N) (cLo c N (nV T n k)) (hiT c N) = 0 ∧ ¬ (N = 0 ∧ tak = true) := by
  rw [nfT_s] at h
  cases e : nfT T n k c tak N with
  | some y => rw [e] at h; cases h
  | none =>
    rw [e] at h
    have h : (if nF T n (pN T n k N) (cLo c N (nV T n k)) (hiT c N) = 0 then (if N = 0 ∧ tak = true then some (4, nA T n (pN T n k N)) else none) else some (nF T n (pN T n k N) (cLo c N (nV T n k)) (hiT c N), nA T n (pN T n k N))) = none := h
    by_cases g : nF T n (pN T n k N) (cLo c N (nV T n k)) (hiT c N) = 0
    · rw [if_pos g] at h
      by_cases g2 : N = 0 ∧ tak = true
      · rw [if_pos g2] at h; cases h
      · exact ⟨rfl, g, g2⟩
    · rw [if_neg g] at h; cases h
theorem nfT_st {T : Nat → Int} {n k c : Nat} {tak : Bool} {N : Nat} (h : nfT T n k c tak N = none) : nfT T n k c tak (N + 1) = if nF T n (pN T n k N) (cLo c N (nV T n k)) (hiT c N) = 0 then (if N = 0 ∧ tak = true then some (4, nA T n (pN T n k N)) else none) else some (nF T n (pN T n k N) (cLo c N (nV T n k)) (hiT c N), nA T n (pN T n k N)) := by
  rw [nfT_s, h]
theorem nums_b : ∀ c : Fin 11, 1 ≤ (zT_NUMBERS_OF.getD c.val 0).toInt ∧ (zT_NUMBERS_OF.getD c.val 0).toInt ≤ 3 := by decide +kernel
theorem c_ofN : ∀ c : Fin 11, inb (Int32.ofNat c.val) 11 = true ∧ ix (Int32.ofNat c.val) = c.val := by decide +kernel
section
variable {n k : Nat} {T : Nat → Int} {w : tTe}
theorem c_nums {v : tRe} {c N np pn : Nat} {px S : Nat → Int} {tak : Bool} (hB : TxB n T) (h : cT w n T) (hk : k ≤ n) (hc : c < 11) (hN : (zT_NUMBERS_OF.getD c 0).toInt = (N : Int))
    (h12 : np ≤ 12) (h1 : (gQu_ints (gRe_quayDraft v) 13).toInt = (np : Int)) (h2 : ∀ k, k < np → (gQu_places (gRe_quayDraft v) k).toInt = px k) (h20 : pn ≤ 20) (h3 : (gPl_ints (gRe_planDraft v) 0).toInt = (pn : Int)) (h4 : ∀ k, k < pn → (gPl_seconds (gRe_planDraft v) k).toInt = S k) (ht : tak = true ↔ takP c np px pn S (nV T n k))
    {f g : Nat → Int32} (hf3 : f 3 = 0) (hf7 : (f 7).toInt = (k : Int)) : ∃ e, lp (fB_Re_readClause_67 v w (Int32.ofNat c)) LF (0, f, g) = some e ∧ ((∀ x, x ≠ 3 → x ≠ 4 → x ≠ 7 → e.2.1 x = f x) ∧ (∀ y, nfT T n k c tak N = some y → (e.2.1 3).toInt = y.1 ∧ y.1 ≠ 0 ∧ (e.2.1 4).toInt = (y.2 : Int)) ∧ (nfT T n k c tak N = none → e.2.1 3 = 0 ∧ e.2.1 4 = f 4 ∧ (e.2.1 7).toInt = (pN T n k N : Int) ∧ ∀ j, j < N → (e.2.2 j).toInt = nV T n (pN T n k j))) := by
  obtain ⟨o1, o2⟩ := c_ofN ⟨c, hc⟩
  have o1 : inb (Int32.ofNat c) 11 = true := o1
  have o2 : ix (Int32.ofNat c) = c := o2
  have nb := nums_b ⟨c, hc⟩
  have nb : 1 ≤ (zT_NUMBERS_OF.getD c 0).toInt ∧ (zT_NUMBERS_OF.getD c 0).toInt ≤ 3 := nb
  refine lp_inv (N := N) (I := fun i t => t.1.toInt = (i : Int) ∧ ((∀ x, x ≠ 3 → x ≠ 4 → x ≠ 7 → t.2.1 x = f x) ∧ (∀ y, nfT T n k c tak i = some y → (t.2.1 3).toInt = y.1 ∧ y.1 ≠ 0 ∧ (t.2.1 4).toInt = (y.2 : Int)) ∧ (nfT T n k c tak i = none → t.2.1 3 = 0 ∧ t.2.1 4 = f 4 ∧ (t.2.1 7).toInt = (pN T n k i : Int) ∧ ∀ j, j < i → (t.2.2 j).toInt = nV T n (pN T n k j)))) (by omega) ?_ ?_ (i := 0) (by omega) ?_
  · rintro i hi ⟨t, f', g'⟩ ih ⟨a0, a1, a2, a3⟩ go
    have a0 : t.toInt = (i : Int) := a0
    have a1 : ∀ x, x ≠ 3 → x ≠ 4 → x ≠ 7 → f' x = f x := a1
    have a2 : ∀ y, nfT T n k c tak i = some y → (f' 3).toInt = y.1 ∧ y.1 ≠ 0 ∧ (f' 4).toInt = (y.2 : Int) := a2
    have a3 : nfT T n k c tak i = none → f' 3 = 0 ∧ f' 4 = f 4 ∧ (f' 7).toInt = (pN T n k i : Int) ∧ ∀ j, j < i → (g' j).toInt = nV T n (pN T n k j) := a3
    have et : t = Int32.ofNat i := lit_of a0 (by omega)
    simp only [fB_Re_readClause_67, if_pos o1, o2]
    rw [if_neg (lt_lit a0 hN hi)]
    cases hy : nfT T n k c tak i with
    | some y =>
      obtain ⟨y1, y2, y3⟩ := a2 y hy
      have fin := nfT_some hy (N - i)
      rw [show i + (N - i) = N by omega] at fin
      rw [if_neg (show ¬ f' 3 = 0 from fun z => y2 (by rw [← y1, z]; rfl))]
      refine ⟨_, rfl, a1, fun z hz => ?_, fun hz => ?_⟩
      · rw [fin] at hz; cases hz; exact ⟨y1, y2, y3⟩
      · rw [fin] at hz; cases hz
    | none =>
      obtain ⟨y1, y2, y3, y4⟩ := a3 hy
      have st := nfT_st hy
      have pb := pN_le T hk i
      rw [if_pos y1, et]
      have hx : c = 0 → i = 1 → (g' 0).toInt = nV T n k ∧ 0 ≤ nV T n k ∧ nV T n k ≤ 9999 := fun _ i1 => by
        subst i1
        have := (nfT_0 (N := 0) hy).2.1
        have b := nF_0 (k := k) hk this
        exact ⟨y4 0 (by decide), b.2.2.2.2⟩
      refine bind_ex' (c_number (v := (f', gRe_quayDraft v, gRe_planDraft v, gRe_tideDraft v, gRe_times v, g')) hB h y3 pb.2 hc (by omega) hx h12 h1 h2 h20 h3 h4) (fun r20 h20 => ?_)
      have nx : (Int32.ofNat i + 1).toInt = ((i + 1 : Nat) : Int) := by rw [← et]; exact toInt_succ a0 (by omega)
      rcases h20 with ⟨z1, fI, aI, z2, z3, z4⟩ | ⟨z1, i0, z2, aI, z3, z4⟩ | ⟨z1, z2, eI, zI, z3, z4, z5⟩
      · rw [if_neg z1] at st
        rw [z4]
        refine go _ ⟨nx, fun x x1 x2 x3 => ?_, fun y hz => ?_, fun hz => ?_⟩
        · show upd (upd f' 3 fI) 4 aI x = _
          rw [upd_ne _ _ x2, upd_ne _ _ x1]; exact a1 x x1 x2 x3
        · rw [st] at hz; cases hz
          refine ⟨?_, z1, ?_⟩
          · show (upd (upd f' 3 fI) 4 aI 3).toInt = _
            rw [upd_ne _ _ (by decide), upd_eq]; exact z2
          · show (upd (upd f' 3 fI) 4 aI 4).toInt = _
            rw [upd_eq]; exact z3
        · rw [st] at hz; cases hz
      · subst i0
        rw [if_pos z1, if_pos (show (0 : Nat) = 0 ∧ tak = true from ⟨rfl, ht.mpr z2⟩)] at st
        rw [z4]
        refine go _ ⟨nx, fun x x1 x2 x3 => ?_, fun y hz => ?_, fun hz => ?_⟩
        · show upd (upd f' 3 4) 4 aI x = _
          rw [upd_ne _ _ x2, upd_ne _ _ x1]; exact a1 x x1 x2 x3
        · rw [st] at hz; cases hz
          refine ⟨?_, (show (4 : Int) ≠ 0 by decide), ?_⟩
          · show (upd (upd f' 3 4) 4 aI 3).toInt = _
            rw [upd_ne _ _ (by decide), upd_eq]; rfl
          · show (upd (upd f' 3 4) 4 aI 4).toInt = _
            rw [upd_eq]; exact z3
        · rw [st] at hz; cases hz
      · have nt : ¬ (i = 0 ∧ tak = true) := fun y => z2 ⟨y.1, by have := y.1; subst this; exact ht.mp y.2⟩
        rw [if_pos z1, if_neg nt] at st
        rw [z5]
        refine go _ ⟨nx, fun x x1 x2 x3 => ?_, fun y hz => ?_, fun _ => ⟨?_, ?_, ?_, fun j hj => ?_⟩⟩
        · show upd f' 7 eI x = _
          rw [upd_ne _ _ x3]; exact a1 x x1 x2 x3
        · rw [st] at hz; cases hz
        · show upd f' 7 eI 3 = _
          rw [upd_ne _ _ (by decide)]; exact y1
        · show upd f' 7 eI 4 = _
          rw [upd_ne _ _ (by decide)]; exact y2
        · show (upd f' 7 eI 7).toInt = _
          rw [upd_eq, pN_s]; exact z3
        · show (upd g' i zI j).toInt = _
          by_cases e : j = i
          · subst e; rw [upd_eq]; exact z4
          · rw [upd_ne _ _ e]; exact y4 j (by omega)
  · rintro ⟨t, f', g'⟩ ih ⟨a0, a1, a2, a3⟩
    have a0 : t.toInt = (N : Int) := a0
    simp only [fB_Re_readClause_67, if_pos o1, o2]
    rw [if_pos (ge_lit a0 hN (Nat.le_refl _))]
    exact ⟨_, rfl, a1, a2, a3⟩
  · refine ⟨rfl, fun x _ _ _ => rfl, fun y hy => ?_, fun _ => ⟨hf3, rfl, hf7, fun j hj => absurd hj (by omega)⟩⟩
    have hy : (none : Option (Int × Nat)) = some y := hy
    cases hy
end
