/-! THE PURE SIDE 48: what a clause stores, the class -/
theorem st_hour {v : tRe} {nh : Nat} (h24 : nh < 24) (h0 : (gTi_ints (gRe_tideDraft v) 0).toInt = (nh : Int)) : ∃ z : Int32, z.toInt = ((nh + 1 : Nat) : Int) ∧ f_Re_store v (Int32.ofNat 10) = some (gQu_ints (gRe_quayDraft v), gQu_places (gRe_quayDraft v), gQu_strengths (gRe_quayDraft v), gPl_ints (gRe_planDraft v), gPl_seconds (gRe_planDraft v), gPl_engines (gRe_planDraft v), gPl_wheels (gRe_planDraft v), upd (gTi_ints (gRe_tideDraft v)) 0 z, upd (gTi_heights (gRe_tideDraft v)) nh (gRe_row v 0)) := by
  have rn := rp.of 24 h0 (by omega) (by omega)
  refine ⟨gTi_ints (gRe_tideDraft v) 0 + 1, toInt_succ h0 (by omega), ?_⟩
  unfold f_Re_store
  rw [if_neg (show ¬ Int32.ofNat 10 = 1 by decide), if_neg (show ¬ Int32.ofNat 10 = 9 by decide), if_pos (show Int32.ofNat 10 = 10 by decide)]
  unfold f_Ti_add
  rw [if_neg (show ¬ gTi_ints (gRe_tideDraft v) 0 < 0 from fun z => by have := (rn.lt (rp.lit 0 0 (a := 0) rfl rfl)).mp z; omega), if_neg (show ¬ (24 : Int32) ≤ gTi_ints (gRe_tideDraft v) 0 from lt_lit h0 (N := 24) rfl h24), if_pos (inb_ok (by omega) (by omega)), ix_eq h0]
  rfl
theorem st_at {v : tRe} {pn : Nat} (h20 : pn < 20) (h0 : (gPl_ints (gRe_planDraft v) 0).toInt = (pn : Int)) : ∃ z : Int32, z.toInt = ((pn + 1 : Nat) : Int) ∧ f_Re_store v (Int32.ofNat 9) = some (gQu_ints (gRe_quayDraft v), gQu_places (gRe_quayDraft v), gQu_strengths (gRe_quayDraft v), upd (gPl_ints (gRe_planDraft v)) 0 z, upd (gPl_seconds (gRe_planDraft v)) pn (gRe_row v 0), upd (gPl_engines (gRe_planDraft v)) pn (gRe_row v 1 - 3), upd (gPl_wheels (gRe_planDraft v)) pn (gRe_row v 2 - 3), gTi_ints (gRe_tideDraft v), gTi_heights (gRe_tideDraft v)) := by
  have rn := rp.of 20 h0 (by omega) (by omega)
  refine ⟨gPl_ints (gRe_planDraft v) 0 + 1, toInt_succ h0 (by omega), ?_⟩
  unfold f_Re_store
  rw [if_neg (show ¬ Int32.ofNat 9 = 1 by decide), if_pos (show Int32.ofNat 9 = 9 by decide)]
  unfold f_Pl_add
  rw [if_neg (show ¬ gPl_ints (gRe_planDraft v) 0 < 0 from fun z => by have := (rn.lt (rp.lit 0 0 (a := 0) rfl rfl)).mp z; omega), if_neg (show ¬ (20 : Int32) ≤ gPl_ints (gRe_planDraft v) 0 from lt_lit h0 (N := 20) rfl h20), if_pos (inb_ok (by omega) (by omega)), if_pos (inb_ok (by omega) (by omega)), if_pos (inb_ok (by omega) (by omega)), ix_eq h0]
  rfl
theorem st_post {v : tRe} {np : Nat} (h12 : np < 12) (h0 : (gQu_ints (gRe_quayDraft v) 13).toInt = (np : Int)) : ∃ z : Int32, z.toInt = ((np + 1 : Nat) : Int) ∧ f_Re_store v (Int32.ofNat 1) = some (upd (gQu_ints (gRe_quayDraft v)) 13 z, upd (gQu_places (gRe_quayDraft v)) np (gRe_row v 0), upd (gQu_strengths (gRe_quayDraft v)) np (gRe_row v 1), gPl_ints (gRe_planDraft v), gPl_seconds (gRe_planDraft v), gPl_engines (gRe_planDraft v), gPl_wheels (gRe_planDraft v), gTi_ints (gRe_tideDraft v), gTi_heights (gRe_tideDraft v)) := by
  have rn := rp.of 12 h0 (by omega) (by omega)
  refine ⟨gQu_ints (gRe_quayDraft v) 13 + 1, toInt_succ h0 (by omega), ?_⟩
  unfold f_Re_store
  rw [if_pos (show Int32.ofNat 1 = 1 by decide)]
  unfold f_Qu_addPost
  rw [if_neg (show ¬ gQu_ints (gRe_quayDraft v) 13 < 0 from fun z => by have := (rn.lt (rp.lit 0 0 (a := 0) rfl rfl)).mp z; omega), if_neg (show ¬ (12 : Int32) ≤ gQu_ints (gRe_quayDraft v) 13 from lt_lit h0 (N := 12) rfl h12), if_pos (inb_ok (by omega) (by omega)), if_pos (inb_ok (by omega) (by omega)), ix_eq h0]
  rfl
