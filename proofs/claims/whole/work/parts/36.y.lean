/-! THE PURE SIDE 64: a ship begins, images forgotten, both -/
def s0I : Nat → Int := fun k => if k = 0 then 4500 else if k = 1 then 3000 else 0
theorem c_first0 (v : tSh) : ∃ r, f_Sh_becomeFirst v = some r ∧ (cS r.1 r.2.1 s0I ∧ (∀ k, k < 6 → r.2.2 k = 0) ∧ r.1 12 = gSh_ints v 12) := by
  unfold f_Sh_becomeFirst
  have loop : ∃ e, lp (fB_Sh_becomeFirst_2 v) LF (0, gSh_ints v) = some e ∧ ((∀ j, j < 9 → e.2 j = 0) ∧ e.2 12 = gSh_ints v 12) := by
    refine lp_inv (N := 9) (I := fun i t => t.1.toInt = (i : Int) ∧ (∀ j, j < i → t.2 j = 0) ∧ t.2 12 = gSh_ints v 12) (by decide) ?_ ?_ (i := 0) (by decide) ⟨rfl, fun j hj => absurd hj (by omega), rfl⟩
    · rintro i hi ⟨t, g⟩ ih ⟨a1, a2, a3⟩ go
      have a1 : t.toInt = (i : Int) := a1
      have a2 : ∀ j, j < i → g j = 0 := a2
      have a3 : g 12 = gSh_ints v 12 := a3
      simp only [fB_Sh_becomeFirst_2]
      rw [if_neg (lt_lit a1 (N := 9) rfl hi), Sh_become_lt _ a1 hi]
      refine zlet_ex fun r7 h7 => ?_
      have h7 : r7 = upd g i 0 := h7
      refine go _ ⟨toInt_succ a1 (by omega), fun j hj => ?_, ?_⟩
      · show r7 j = 0
        rw [h7]
        by_cases y : j = i
        · subst y; exact upd_eq _ _ _
        · rw [upd_ne _ _ y]; exact a2 j (by omega)
      · show r7 12 = _
        rw [h7, upd_ne _ _ (by omega)]; exact a3
    · rintro ⟨t, g⟩ ih ⟨a1, a2, a3⟩
      have a1 : t.toInt = ((9 : Nat) : Int) := a1
      simp only [fB_Sh_becomeFirst_2]
      rw [if_pos (ge_lit a1 (N := 9) rfl (by omega))]
      exact ⟨_, rfl, a2, a3⟩
  refine bind_ex' loop (fun q2 h2 => ?_)
  obtain ⟨g1, g2⟩ := h2
  refine bind_ex' (c_letgo (gSh_lines v)) (fun r8 h8 => ?_)
  refine ⟨_, rfl, ?_, h8, ?_⟩
  · unfold cS
    refine ⟨?_, ?_, ?_, ?_, ?_, ?_, ?_, ?_, ?_, ?_, ?_, ?_, ?_⟩ <;> simp (disch := decide) only [upd_eq, upd_ne, ne_eq, g1] <;> decide
  · show upd (upd (upd (upd (upd q2.2 0 4500) 1 3000) 9 0) 10 0) 11 0 12 = _
    rw [upd_ne _ _ (by decide), upd_ne _ _ (by decide), upd_ne _ _ (by decide), upd_ne _ _ (by decide), upd_ne _ _ (by decide)]; exact g2
theorem m_begin (m : tMo) : ∃ r, f_Mo_begin m = some r ∧ (mS r.1 s0I ∧ ∀ k, k < 24 → r.2 k = 0) := by
  unfold f_Mo_begin
  have loop : ∃ e, lp fB_Mo_begin_2 LF (0, gMo_ship m) = some e ∧ (∀ j, j < 13 → (e.2 j).toInt = s0I j) := by
    refine lp_inv (N := 13) (I := fun i t => t.1.toInt = (i : Int) ∧ (∀ j, j < i → (t.2 j).toInt = s0I j)) (by decide) ?_ ?_ (i := 0) (by decide) ⟨rfl, fun j hj => absurd hj (by omega)⟩
    · rintro i hi ⟨t, g⟩ ih ⟨a1, a2⟩ go
      have a1 : t.toInt = (i : Int) := a1
      have a2 : ∀ j, j < i → (g j).toInt = s0I j := a2
      simp only [fB_Mo_begin_2]
      rw [if_neg (lt_lit a1 (N := 13) rfl hi)]
      refine zlet_ex fun w7 h7 => ?_
      have v7 : w7.toInt = s0I i := by
        rw [h7]
        unfold s0I
        by_cases y0 : i = 0
        · rw [if_pos (show t = 0 from Int32.toInt_inj.mp (by rw [a1, y0]; rfl)), if_pos y0]; rfl
        · rw [if_neg (show ¬ t = 0 from fun z => y0 (by rw [z] at a1; have : (0 : Int32).toInt = 0 := rfl; omega)), if_neg y0]
          by_cases y1 : i = 1
          · rw [if_pos (show t = 1 from Int32.toInt_inj.mp (by rw [a1, y1]; rfl)), if_pos y1]; rfl
          · rw [if_neg (show ¬ t = 1 from fun z => y1 (by rw [z] at a1; have : (1 : Int32).toInt = 1 := rfl; omega)), if_neg y1]; rfl
      rw [if_pos (inb_ok (by omega) (by omega)), ix_eq a1]
      refine go _ ⟨toInt_succ a1 (by omega), fun j hj => ?_⟩
      show (vp_updL g i w7 j).toInt = _
      by_cases y : j = i
      · subst y; rw [updL_eq]; exact v7
      · rw [updL_ne _ _ y]; exact a2 j (by omega)
    · rintro ⟨t, g⟩ ih ⟨a1, a2⟩
      have a1 : t.toInt = ((13 : Nat) : Int) := a1
      simp only [fB_Mo_begin_2]
      rw [if_pos (ge_lit a1 (N := 13) rfl (by omega))]
      exact ⟨_, rfl, a2⟩
  have loop2 : ∃ e, lp fB_Mo_begin_44 LF (0, gMo_lines m) = some e ∧ (∀ j, j < 24 → e.2 j = 0) := by
    refine lp_inv (N := 24) (I := fun i t => t.1.toInt = (i : Int) ∧ (∀ j, j < i → t.2 j = 0)) (by decide) ?_ ?_ (i := 0) (by decide) ⟨rfl, fun j hj => absurd hj (by omega)⟩
    · rintro i hi ⟨t, g⟩ ih ⟨a1, a2⟩ go
      have a1 : t.toInt = (i : Int) := a1
      have a2 : ∀ j, j < i → g j = 0 := a2
      simp only [fB_Mo_begin_44]
      rw [if_neg (lt_lit a1 (N := 24) rfl hi), if_pos (inb_ok (by omega) (by omega)), ix_eq a1]
      refine go _ ⟨toInt_succ a1 (by omega), fun j hj => ?_⟩
      show upd g i 0 j = 0
      by_cases y : j = i
      · subst y; exact upd_eq _ _ _
      · rw [upd_ne _ _ y]; exact a2 j (by omega)
    · rintro ⟨t, g⟩ ih ⟨a1, a2⟩
      have a1 : t.toInt = ((24 : Nat) : Int) := a1
      simp only [fB_Mo_begin_44]
      rw [if_pos (ge_lit a1 (N := 24) rfl (by omega))]
      exact ⟨_, rfl, a2⟩
  refine bind_ex' loop (fun q2 h2 => ?_)
  refine bind_ex' loop2 (fun q3 h3 => ?_)
  refine ⟨_, rfl, ?_, h3⟩
  exact ⟨h2 0 (by decide), h2 1 (by decide), h2 2 (by decide), h2 3 (by decide), h2 4 (by decide), h2 5 (by decide), h2 6 (by decide), h2 7 (by decide), h2 8 (by decide), h2 9 (by decide), h2 10 (by decide), h2 11 (by decide), h2 12 (by decide)⟩
theorem c_forget (v : tAL) : ∃ r, f_AL_forgetImages v = some r ∧ (r 0 = 0 ∧ r 1 = 0) := by
  unfold f_AL_forgetImages
  have z0 : vp_nar .boolean 0 = 0 := by decide
  have loop : ∃ e, lp fB_AL_forgetImages_2 LF (0, gAL_kept v) = some e ∧ (∀ j, j < 2 → e.2 j = 0) := by
    refine lp_inv (N := 2) (I := fun i t => t.1.toInt = (i : Int) ∧ (∀ j, j < i → t.2 j = 0)) (by decide) ?_ ?_ (i := 0) (by decide) ⟨rfl, fun j hj => absurd hj (by omega)⟩
    · rintro i hi ⟨t, g⟩ ih ⟨a1, a2⟩ go
      have a1 : t.toInt = (i : Int) := a1
      have a2 : ∀ j, j < i → g j = 0 := a2
      simp only [fB_AL_forgetImages_2]
      rw [if_neg (lt_lit a1 (N := 2) rfl hi), if_pos (inb_ok (by omega) (by omega)), ix_eq a1, z0]
      refine go _ ⟨toInt_succ a1 (by omega), fun j hj => ?_⟩
      show upd g i 0 j = 0
      by_cases y : j = i
      · subst y; exact upd_eq _ _ _
      · rw [upd_ne _ _ y]; exact a2 j (by omega)
    · rintro ⟨t, g⟩ ih ⟨a1, a2⟩
      have a1 : t.toInt = ((2 : Nat) : Int) := a1
      simp only [fB_AL_forgetImages_2]
      rw [if_pos (ge_lit a1 (N := 2) rfl (by omega))]
      exact ⟨_, rfl, a2⟩
  exact bind_ex' loop (fun q2 h2 => ⟨_, rfl, h2 0 (by decide), h2 1 (by decide)⟩)
theorem RB_s0 {c : Int} (hc : 0 ≤ c) : RB c s0I := by
  unfold RB SB s0I
  simp only [if_pos, if_neg, reduceIte, Nat.reduceEqDiff]
  omega
theorem untold_t : ∀ i : Fin 13, f_Mo_untold (Int32.ofNat i.val) = zT_UNTOLD.getD i.val 0 := by decide +kernel
theorem bd_untold {f : Nat → Int32} (h : ∀ j, j < 13 → f j = zT_UNTOLD.getD j 0) : bdT f := by
  have t : ∀ x : Fin 13, qLo x.val ≤ (zT_UNTOLD.getD x.val 0).toInt ∧ (zT_UNTOLD.getD x.val 0).toInt ≤ qHi x.val := by decide +kernel
  refine ⟨fun x hx => ?_, ?_⟩
  · rw [h x hx]; exact t ⟨x, hx⟩
  · rw [h 0 (by decide), h 1 (by decide)]; decide +kernel
theorem m_untold (g : Nat → Int32) : ∃ e, lp fB_Mo_quay_22 LF (0, g) = some e ∧ ∀ j, j < 13 → e.2 j = zT_UNTOLD.getD j 0 := by
  refine lp_inv (N := 13) (I := fun i t => t.1.toInt = (i : Int) ∧ ∀ j, j < i → t.2 j = zT_UNTOLD.getD j 0) (by decide) ?_ ?_ (i := 0) (by decide) ⟨rfl, fun j hj => absurd hj (by omega)⟩
  · rintro i hi ⟨t, g⟩ ih ⟨a1, a2⟩ go
    have a1 : t.toInt = (i : Int) := a1
    have a2 : ∀ j, j < i → g j = zT_UNTOLD.getD j 0 := a2
    have et : t = Int32.ofNat i := Int32.toInt_inj.mp (by rw [a1, Int32.toInt_ofNat_of_lt (by omega)])
    simp only [fB_Mo_quay_22]
    rw [if_neg (lt_lit a1 (N := 13) rfl hi)]
    refine zlet_ex fun z7 h7 => ?_
    have h7 : z7 = zT_UNTOLD.getD i 0 := by rw [h7, et]; exact untold_t ⟨i, hi⟩
    rw [if_pos (inb_ok (by omega) (by omega)), ix_eq a1]
    refine go _ ⟨toInt_succ a1 (by omega), fun j hj => ?_⟩
    show upd g i z7 j = _
    by_cases y : j = i
    · subst y; rw [upd_eq]; exact h7
    · rw [upd_ne _ _ y]; exact a2 j (by omega)
  · rintro ⟨t, g⟩ ih ⟨a1, a2⟩
    have a1 : t.toInt = ((13 : Nat) : Int) := a1
    simp only [fB_Mo_quay_22]
    rw [if_pos (ge_lit a1 (N := 13) rfl (by omega))]
    exact ⟨_, rfl, a2⟩
theorem m_copyQ (q : tQ) (g : Nat → Int32) : ∃ e, lp (fB_Mo_quay_81 q) LF (0, g) = some e ∧ ∀ j, j < 13 → e.2 j = q.2.2.2.1 j := by
  refine lp_inv (N := 13) (I := fun i t => t.1.toInt = (i : Int) ∧ ∀ j, j < i → t.2 j = q.2.2.2.1 j) (by decide) ?_ ?_ (i := 0) (by decide) ⟨rfl, fun j hj => absurd hj (by omega)⟩
  · rintro i hi ⟨t, g⟩ ih ⟨a1, a2⟩ go
    have a1 : t.toInt = (i : Int) := a1
    have a2 : ∀ j, j < i → g j = q.2.2.2.1 j := a2
    simp only [fB_Mo_quay_81]
    rw [if_neg (lt_lit a1 (N := 13) rfl hi), if_pos (inb_ok (by omega) (by omega)), if_pos (inb_ok (by omega) (by omega)), ix_eq a1]
    refine go _ ⟨toInt_succ a1 (by omega), fun j hj => ?_⟩
    show upd g i (q.2.2.2.1 i) j = _
    by_cases y : j = i
    · subst y; exact upd_eq _ _ _
    · rw [upd_ne _ _ y]; exact a2 j (by omega)
  · rintro ⟨t, g⟩ ih ⟨a1, a2⟩
    have a1 : t.toInt = ((13 : Nat) : Int) := a1
    simp only [fB_Mo_quay_81]
    rw [if_pos (ge_lit a1 (N := 13) rfl (by omega))]
    exact ⟨_, rfl, a2⟩
theorem m_copyX (q : tQ) (g f : Nat → Int32) : ∃ e, lp (fB_Mo_quay_115 q) LF (0, g, f) = some e ∧ ∀ j, j < 12 → e.2.1 j = q.2.2.2.2.1 j ∧ e.2.2 j = q.2.2.2.2.2 j := by
  refine lp_inv (N := 12) (I := fun i t => t.1.toInt = (i : Int) ∧ ∀ j, j < i → t.2.1 j = q.2.2.2.2.1 j ∧ t.2.2 j = q.2.2.2.2.2 j) (by decide) ?_ ?_ (i := 0) (by decide) ⟨rfl, fun j hj => absurd hj (by omega)⟩
  · rintro i hi ⟨t, g, f⟩ ih ⟨a1, a2⟩ go
    have a1 : t.toInt = (i : Int) := a1
    have a2 : ∀ j, j < i → g j = q.2.2.2.2.1 j ∧ f j = q.2.2.2.2.2 j := a2
    have ib : inb t 12 = true := inb_ok (by omega) (by omega)
    simp only [fB_Mo_quay_115]
    rw [if_neg (lt_lit a1 (N := 12) rfl hi), if_pos ib, if_pos ib, if_pos ib, if_pos ib, ix_eq a1]
    refine go _ ⟨toInt_succ a1 (by omega), fun j hj => ?_⟩
    show upd g i (q.2.2.2.2.1 i) j = _ ∧ upd f i (q.2.2.2.2.2 i) j = _
    by_cases y : j = i
    · subst y; exact ⟨upd_eq _ _ _, upd_eq _ _ _⟩
    · rw [upd_ne _ _ y, upd_ne _ _ y]; exact a2 j (by omega)
  · rintro ⟨t, g, f⟩ ih ⟨a1, a2⟩
    have a1 : t.toInt = ((12 : Nat) : Int) := a1
    simp only [fB_Mo_quay_115]
    rw [if_pos (ge_lit a1 (N := 12) rfl (by omega))]
    exact ⟨_, rfl, a2⟩
section
variable {n : Nat} {v : tAL} {m : tMo}
theorem p_quayRead {N : Nat} {T : Nat → Int} (hB : TxB N T) (hc : cT (gAL_text v) N T) (hm : mT (gMo_ints m) (gMo_text m) N T) {k : Nat → Int32} (hk : ∀ j, j < 13 → k j = zT_UNTOLD.getD j 0) : ∃ r q2, f_Re_read (gAL_reader v) (gAL_text v) 0 = some r ∧ lp (fB_Mo_quay_46 m) LF (0, (upd (upd (upd (upd (gMo_ints m) 12 (-1)) 13 0) 22 0) 19 0), (gMo_said m), k, (gMo_readX m), (gMo_readStrong m)) = some q2 ∧ outQ (gMo_ints m) (0, r) q2 := by
  unfold f_Re_read
  obtain ⟨q, e1, g1⟩ := c_times0 (gRe_times (gAL_reader v))
  obtain ⟨r8, e2, g2, g3⟩ := c_untold (gRe_quayDraft (gAL_reader v))
  rw [e1, Option.bind_some, e2, Option.bind_some]
  have lf := LF_ge
  have lf2 : (2 : Nat) ^ 40 = 1099511627776 := by decide
  have n300 := hB.1
  obtain ⟨e, e', k1, k2, k3⟩ := lpTwo (B := fB_Re_read_61 (gAL_text v) 0) (B' := fB_Mo_quay_46 m) (I := inQ N (gMo_ints m)) (Q := outQ (gMo_ints m)) (fun d s s' ih ih' hI go => quay_step hB hc hm d s s' ih ih' hI go) LF (N - 0 + 1) (0, (upd (upd (upd (gRe_ints (gAL_reader v)) 3 0) 4 (-1)) 7 0), r8, (gQu_places (gRe_quayDraft (gAL_reader v))), (gQu_strengths (gRe_quayDraft (gAL_reader v))), (upd (gPl_ints (gRe_planDraft (gAL_reader v))) 0 0), (gPl_seconds (gRe_planDraft (gAL_reader v))), (gPl_engines (gRe_planDraft (gAL_reader v))), (gPl_wheels (gRe_planDraft (gAL_reader v))), (upd (gTi_ints (gRe_tideDraft (gAL_reader v))) 0 0), (gTi_heights (gRe_tideDraft (gAL_reader v))), q.2, (gRe_row (gAL_reader v))) (0, (upd (upd (upd (upd (gMo_ints m) 12 (-1)) 13 0) 22 0) 19 0), (gMo_said m), k, (gMo_readX m), (gMo_readStrong m)) LF (by omega) (by omega) (by
    refine ⟨fun x x1 x2 x3 x4 x5 x6 x7 => ?_, Or.inr ⟨0, 0, 0, ⟨?_, rfl, ?_, ?_, by omega, ?_, ?_, fun j hj => ?_, fun j hj => absurd hj (by omega), ?_, fun j hj => absurd hj (by omega)⟩, by omega, by omega, rfl, rfl, ?_, ?_, ⟨?_, fun c c1 _ => Or.inr ⟨?_, ?_⟩⟩, ?_⟩⟩
    · show (upd (upd (upd (upd (gMo_ints m) 12 (-1)) 13 0) 22 0) 19 0) x = _
      rw [upd_ne _ _ x6, upd_ne _ _ x7, upd_ne _ _ x2, upd_ne _ _ x1]
    · show upd (upd (upd (gRe_ints (gAL_reader v)) 3 0) 4 (-1)) 7 0 3 = 0
      rw [upd_ne _ _ (by decide), upd_ne _ _ (by decide), upd_eq]
    · show upd (upd (upd (gRe_ints (gAL_reader v)) 3 0) 4 (-1)) 7 0 4 = -1
      rw [upd_ne _ _ (by decide), upd_eq]
    · show (upd (upd (upd (upd (gMo_ints m) 12 (-1)) 13 0) 22 0) 19 0) 12 = -1
      rw [upd_ne _ _ (by decide), upd_ne _ _ (by decide), upd_ne _ _ (by decide), upd_eq]
    · show ((upd (upd (upd (upd (gMo_ints m) 12 (-1)) 13 0) 22 0) 19 0) 19).toInt = _
      rw [upd_eq]; rfl
    · show (r8 13).toInt = _
      rw [g3]; rfl
    · show r8 j = k j
      rw [g2 j hj, hk j hj]
    · show bdT k
      exact bd_untold hk
    · show (upd (upd (upd (gRe_ints (gAL_reader v)) 3 0) 4 (-1)) 7 0 7).toInt = _
      rw [upd_eq]; rfl
    · show ((upd (upd (upd (upd (gMo_ints m) 12 (-1)) 13 0) 22 0) 19 0) 13).toInt = _
      rw [upd_ne _ _ (by decide), upd_ne _ _ (by decide), upd_eq]; rfl
    · show (q.2 1).toInt = _
      rw [g1 1 (by decide)]; rfl
    · show q.2 c = 0
      exact g1 c (by omega)
    · show tb ((upd (upd (upd (upd (gMo_ints m) 12 (-1)) 13 0) 22 0) 19 0) 22) (refC c) = false
      rw [upd_ne _ _ (by decide), upd_eq]; exact tb_zero _
    · show upd (gPl_ints (gRe_planDraft (gAL_reader v))) 0 0 0 = 0
      rw [upd_eq])
  rw [k1, k2]
  exact ⟨_, _, rfl, rfl, k3⟩
theorem p_quay (h : Rel n v m) : ∃ r r', f_AL_quay v = some r ∧ f_Mo_quay m = some r' ∧ (r.1 = r'.1 ∧ Rel (n + 1) (sAL_kept (sAL_ship (sAL_quay (sAL_reader (sAL_text (sAL_ints v r.2.1) (r.2.2.1, gTe_bytes (gAL_text v))) (r.2.2.2.1, (r.2.2.2.2.1, r.2.2.2.2.2.1, r.2.2.2.2.2.2.1), (r.2.2.2.2.2.2.2.1, r.2.2.2.2.2.2.2.2.1, r.2.2.2.2.2.2.2.2.2.1, r.2.2.2.2.2.2.2.2.2.2.1), (r.2.2.2.2.2.2.2.2.2.2.2.1, r.2.2.2.2.2.2.2.2.2.2.2.2.1), r.2.2.2.2.2.2.2.2.2.2.2.2.2.1, r.2.2.2.2.2.2.2.2.2.2.2.2.2.2.1)) (r.2.2.2.2.2.2.2.2.2.2.2.2.2.2.2.1, r.2.2.2.2.2.2.2.2.2.2.2.2.2.2.2.2.1, r.2.2.2.2.2.2.2.2.2.2.2.2.2.2.2.2.2.1)) (r.2.2.2.2.2.2.2.2.2.2.2.2.2.2.2.2.2.2.1, r.2.2.2.2.2.2.2.2.2.2.2.2.2.2.2.2.2.2.2.1, (r.2.2.2.2.2.2.2.2.2.2.2.2.2.2.2.2.2.2.2.2.1, gLi_place (gSh_lines (gAL_ship v)), gLi_post (gSh_lines (gAL_ship v)), gLi_length (gSh_lines (gAL_ship v))))) r.2.2.2.2.2.2.2.2.2.2.2.2.2.2.2.2.2.2.2.2.2) (sMo_isKept (sMo_readStrong (sMo_readX (sMo_readTold (sMo_said (sMo_lines (sMo_ship (sMo_postStrong (sMo_postX (sMo_told (sMo_ints m r'.2.1) r'.2.2.1) r'.2.2.2.1) r'.2.2.2.2.1) r'.2.2.2.2.2.1) r'.2.2.2.2.2.2.1) r'.2.2.2.2.2.2.2.1) r'.2.2.2.2.2.2.2.2.1) r'.2.2.2.2.2.2.2.2.2.1) r'.2.2.2.2.2.2.2.2.2.2.1) r'.2.2.2.2.2.2.2.2.2.2.2)) := by
  obtain ⟨q, px, ps, s, L, np, T, E, R, nh, H, h1, h2, h3, h4, h5, h6, h7, h8, h9⟩ := h.next
  obtain ⟨N, TT, tB, tc, tm⟩ := h5.txt
  obtain ⟨k0, e0, g0⟩ := m_untold (gMo_readTold m)
  obtain ⟨r, q2, e1, e2, fr, out⟩ := p_quayRead tB tc tm g0
  have fr : frQ (gMo_ints m) q2.2.1 := fr
  have t0 : RelT (upd (gTe_ints (gAL_text v)) 1 0, gTe_bytes (gAL_text v)) (upd q2.2.1 11 0) (gMo_text m) := ⟨0, by decide, by show (upd (gTe_ints (gAL_text v)) 1 0 1).toInt = _; rw [upd_eq]; rfl, by rw [upd_eq]; rfl, fun k hk => absurd hk (by omega)⟩
  unfold f_AL_quay f_AL_readText f_Mo_quay
  rw [e1, e0, Option.bind_some, Option.bind_some, e2, Option.bind_some]
  rcases out with ⟨F, f1, f2, f3, f4⟩ | ⟨np', w1, w2, w3, w4, w5, w6, w7, w8, w9, w10, w11⟩
  · have f1 : (r.1 3).toInt = F := f1
    have f4 : r.1 4 = q2.2.1 12 := f4
    have c1 : ¬ r.1 3 = 0 := fun z => by rw [z] at f1; have : (0 : Int32).toInt = 0 := rfl; omega
    have c2 : ¬ q2.1 ≤ 0 := fun z => by rw [Int32.le_iff_toInt_le, f2] at z; have z : F ≤ 0 := z; omega
    rw [if_neg c1, if_neg c2, Option.bind_some, if_pos rfl]
    refine ⟨_, _, rfl, rfl, ?_, ⟨q, px, ps, s, L, np, T, E, R, nh, H, h1.ints ?_, h2.ints ?_, h3.ints ?_, h4.ints ?_, t0, h6.ints ?_ ?_, ?_, h8, h9⟩⟩
    · show -10 - r.1 3 = -10 - q2.1
      rw [show r.1 3 = q2.1 from Int32.toInt_inj.mp (f1.trans f2.symm)]
    · show upd q2.2.1 11 0 1 = _
      rw [upd_ne _ _ (by decide)]; exact fr 1 (by decide) (by decide) (by decide) (by decide) (by decide) (by decide) (by decide)
    · show upd q2.2.1 11 0 4 = _
      rw [upd_ne _ _ (by decide)]; exact fr 4 (by decide) (by decide) (by decide) (by decide) (by decide) (by decide) (by decide)
    · show upd q2.2.1 11 0 6 = _
      rw [upd_ne _ _ (by decide)]; exact fr 6 (by decide) (by decide) (by decide) (by decide) (by decide) (by decide) (by decide)
    · show upd q2.2.1 11 0 26 = _
      rw [upd_ne _ _ (by decide)]; exact fr 26 (by decide) (by decide) (by decide) (by decide) (by decide) (by decide) (by decide)
    · show upd q2.2.1 11 0 30 = _
      rw [upd_ne _ _ (by decide)]; exact fr 30 (by decide) (by decide) (by decide) (by decide) (by decide) (by decide) (by decide)
    · show upd (gAL_ints v) 14 (r.1 4) 13 = _
      exact upd_ne _ _ (by decide)
    · show upd (gAL_ints v) 14 (r.1 4) 14 = upd q2.2.1 11 0 12
      rw [upd_eq, upd_ne _ _ (by decide)]; exact f4
  · have w1 : r.1 3 = 0 := w1
    have w3 : r.1 4 = -1 := w3
    have w7 : (r.2.1 13).toInt = (np' : Int) := w7
    have w8 : ∀ j, j < 13 → r.2.1 j = q2.2.2.2.1 j := w8
    have w9 : ∀ j, j < np' → r.2.2.1 j = q2.2.2.2.2.1 j ∧ r.2.2.2.1 j = q2.2.2.2.2.2 j := w9
    obtain ⟨b1, b2⟩ := w10
    have hQB : QB (fun j => if j = 13 then (np' : Int) else (q2.2.2.2.1 j).toInt) (fun j => (q2.2.2.2.2.1 j).toInt) (fun j => (q2.2.2.2.2.2 j).toInt) := by
      have c0 := b1 0 (by decide)
      have c1 := b1 1 (by decide)
      have c2 := b1 2 (by decide)
      have c3 := b1 3 (by decide)
      have c4 := b1 4 (by decide)
      have c5 := b1 5 (by decide)
      have c6 := b1 6 (by decide)
      have c7 := b1 7 (by decide)
      have c8 := b1 8 (by decide)
      have c9 := b1 9 (by decide)
      have c10 := b1 10 (by decide)
      have c11 := b1 11 (by decide)
      have c12 := b1 12 (by decide)
      exact ⟨⟨c0.1, b2, c1.2⟩, c2, c3, c4, c5, c6, c7, c8, c9, c10, c11, c12, ⟨Int.natCast_nonneg np', by show (np' : Int) ≤ 12; omega⟩, fun k hk => w11 k (by have hk : (k : Int) < (np' : Int) := hk; omega)⟩
    have hcQ : cQ (r.2.1, r.2.2.1, r.2.2.2.1) (fun j => if j = 13 then (np' : Int) else (q2.2.2.2.1 j).toInt) (fun j => (q2.2.2.2.2.1 j).toInt) (fun j => (q2.2.2.2.2.2 j).toInt) := by
      refine ⟨fun k hk => ?_, fun k hk => ?_⟩
      · show (r.2.1 k).toInt = if k = 13 then (np' : Int) else (q2.2.2.2.1 k).toInt
        by_cases y : k = 13
        · rw [if_pos y, y]; exact w7
        · rw [if_neg y, w8 k (by omega)]
      · have hk : (k : Int) < (np' : Int) := hk
        obtain ⟨x1, x2⟩ := w9 k (by omega)
        exact ⟨by show (r.2.2.1 k).toInt = _; rw [x1], by show (r.2.2.2.1 k).toInt = _; rw [x2]⟩
    obtain ⟨r4, e4, g4⟩ := c_qcopy (v0 := gAL_quay v) hcQ hQB
    obtain ⟨r5, e5, g5, g6, g7⟩ := c_first0 (gAL_ship v)
    obtain ⟨q20, e20, g20⟩ := m_copyQ q2 (gMo_told m)
    obtain ⟨q28, e28, g28⟩ := m_copyX q2 (gMo_postX m) (gMo_postStrong m)
    rw [if_pos w1, if_pos (show q2.1 ≤ 0 by rw [w2]; decide), Option.bind_some, if_neg (show ¬ (1 : Int32) = 0 by decide), e4, Option.bind_some, e5, Option.bind_some, e20, Option.bind_some, e28, Option.bind_some]
    obtain ⟨r6, e6, g8, g9⟩ := c_forget ((upd (gAL_ints v) 14 (r.1 4)), ((upd (gTe_ints (gAL_text v)) 1 0), (gTe_bytes (gAL_text v))), (r.1, (r.2.1, r.2.2.1, r.2.2.2.1), (r.2.2.2.2.1, r.2.2.2.2.2.1, r.2.2.2.2.2.2.1, r.2.2.2.2.2.2.2.1), (r.2.2.2.2.2.2.2.2.1, r.2.2.2.2.2.2.2.2.2.1), r.2.2.2.2.2.2.2.2.2.2.1, r.2.2.2.2.2.2.2.2.2.2.2), (r4.1, r4.2.1, r4.2.2), (gAL_plan v), (gAL_tide v), (r5.1, r5.2.1, (r5.2.2, (gLi_place (gSh_lines (gAL_ship v))), (gLi_post (gSh_lines (gAL_ship v))), (gLi_length (gSh_lines (gAL_ship v))))), (gAL_images0 v), (gAL_images1 v), (gAL_kept v), (gAL_logged v), (gAL_trial v), (gAL_search v), (gAL_night v), (gAL_lettingGo v))
    obtain ⟨r37, e37, g37, g38⟩ := m_begin ((upd (upd q2.2.1 11 0) 1 (q2.2.1 19)), q20.2, q28.2.1, q28.2.2, (gMo_atRow m), (gMo_heights m), (gMo_ship m), (gMo_lines m), (gMo_text m), q2.2.2.1, q2.2.2.2.1, q2.2.2.2.2.1, q2.2.2.2.2.2, (gMo_readRow m), (gMo_parting m), (gMo_wasShip m), (gMo_wasLines m), (gMo_worst m), (gMo_logRow m), (gMo_images m), (gMo_isKept m))
    rw [e6, e37, Option.bind_some, Option.bind_some]
    have z0 : vp_nar .boolean 0 = 0 := by decide
    refine ⟨_, _, rfl, rfl, ?_, ⟨(fun j => if j = 13 then (np' : Int) else (q2.2.2.2.1 j).toInt), (fun j => (q2.2.2.2.2.1 j).toInt), (fun j => (q2.2.2.2.2.2 j).toInt), s0I, (fun _ => 0), np, T, E, R, nh, H, ⟨hQB, g4, fun k hk => ?_, ?_, fun k hk => ?_⟩, h2.ints ?_, h3.ints ?_, ⟨RB_s0 (by omega), fun l hl => Or.inl rfl, g5, fun l hl => ⟨?_, fun z => absurd z (show ¬ (0 : Int) = 1 by decide)⟩, g37, fun k hk => ?_, ?_, ?_⟩, ?_, h6.ints ?_ ?_, ?_, Or.inl ⟨g8, ?_⟩, Or.inl ⟨g9, ?_⟩⟩⟩
    · show r4.1 13 = q2.2.1 19
      exact Int32.toInt_inj.mp ((g4.1 13 (by decide)).trans w6.symm)
    · show (q20.2 k).toInt = if k = 13 then (np' : Int) else (q2.2.2.2.1 k).toInt
      rw [if_neg (by omega), g20 k hk]
    · show (upd (upd q2.2.1 11 0) 1 (q2.2.1 19) 1).toInt = (np' : Int)
      rw [upd_eq]; exact w6
    · have hk : (k : Int) < (np' : Int) := hk
      obtain ⟨x1, x2⟩ := g28 k (by omega)
      exact ⟨by show (q28.2.1 k).toInt = _; rw [x1], by show (q28.2.2 k).toInt = _; rw [x2]⟩
    · show upd (upd q2.2.1 11 0) 1 (q2.2.1 19) 4 = _
      rw [upd_ne _ _ (by decide), upd_ne _ _ (by decide)]; exact fr 4 (by decide) (by decide) (by decide) (by decide) (by decide) (by decide) (by decide)
    · show upd (upd q2.2.1 11 0) 1 (q2.2.1 19) 6 = _
      rw [upd_ne _ _ (by decide), upd_ne _ _ (by decide)]; exact fr 6 (by decide) (by decide) (by decide) (by decide) (by decide) (by decide) (by decide)
    · show (r5.2.2 l).toInt = 0
      rw [g6 l hl]; rfl
    · show (r37.2 k).toInt = 0
      rw [g38 k hk]; rfl
    · show r5.1 12 = upd (upd q2.2.1 11 0) 1 (q2.2.1 19) 26
      rw [g7, upd_ne _ _ (by decide), upd_ne _ _ (by decide), fr 26 (by decide) (by decide) (by decide) (by decide) (by decide) (by decide) (by decide)]; exact h4.2.2.2.2.2.2.1
    · show 0 ≤ (upd (upd q2.2.1 11 0) 1 (q2.2.1 19) 26).toInt
      rw [upd_ne _ _ (by decide), upd_ne _ _ (by decide), fr 26 (by decide) (by decide) (by decide) (by decide) (by decide) (by decide) (by decide)]; exact h4.2.2.2.2.2.2.2
    · exact t0.ints (by show upd (upd q2.2.1 11 0) 1 (q2.2.1 19) 11 = _; rw [upd_ne _ _ (by decide)])
    · show upd (upd q2.2.1 11 0) 1 (q2.2.1 19) 30 = _
      rw [upd_ne _ _ (by decide), upd_ne _ _ (by decide)]; exact fr 30 (by decide) (by decide) (by decide) (by decide) (by decide) (by decide) (by decide)
    · show upd (gAL_ints v) 14 (r.1 4) 13 = _
      exact upd_ne _ _ (by decide)
    · show upd (gAL_ints v) 14 (r.1 4) 14 = upd (upd q2.2.1 11 0) 1 (q2.2.1 19) 12
      rw [upd_eq, upd_ne _ _ (by decide), upd_ne _ _ (by decide), w3]; exact w4.symm
    · show upd (upd (gMo_isKept m) 0 (vp_nar .boolean 0)) 1 (vp_nar .boolean 0) 0 = 0
      rw [upd_ne _ _ (by decide), upd_eq]; exact z0
    · show upd (upd (gMo_isKept m) 0 (vp_nar .boolean 0)) 1 (vp_nar .boolean 0) 1 = 0
      rw [upd_eq]; exact z0
end
