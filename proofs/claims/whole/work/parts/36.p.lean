/-! THE PURE SIDE 52: tide, side by side -/
theorem RelT.txt {w : tTe} {i t : Nat → Int32} (h : RelT w i t) : ∃ (n : Nat) (T : Nat → Int), TxB n T ∧ cT w n T ∧ mT i t n T := by
  obtain ⟨n, h1, h2, h3, h4⟩ := h
  exact ⟨n, fun k => (t k).toInt, ⟨h1, fun k hk => (h4 k hk).2⟩, ⟨h2, fun k hk => by rw [(h4 k hk).1]⟩, ⟨h3, fun k _ => rfl⟩⟩
section
variable {n : Nat} {v : tAL} {m : tMo}
theorem p_tideRead {N : Nat} {T : Nat → Int} (hB : TxB N T) (hc : cT (gAL_text v) N T) (hm : mT (gMo_ints m) (gMo_text m) N T) : ∃ r q2, f_Re_read (gAL_reader v) (gAL_text v) 2 = some r ∧ lp (fB_Mo_tide_17 m) LF (0, (upd (upd (upd (gMo_ints m) 12 (-1)) 13 0) 24 0), (gMo_said m), (gMo_readRow m)) = some q2 ∧ outT (gMo_ints m) (0, r) q2 := by
  unfold f_Re_read
  obtain ⟨q, e1, g1⟩ := c_times0 (gRe_times (gAL_reader v))
  obtain ⟨r8, e2, g2, g3⟩ := c_untold (gRe_quayDraft (gAL_reader v))
  rw [e1, Option.bind_some, e2, Option.bind_some]
  have lf := LF_ge
  have lf2 : (2 : Nat) ^ 40 = 1099511627776 := by decide
  have n300 := hB.1
  obtain ⟨e, e', k1, k2, k3⟩ := lpTwo (B := fB_Re_read_61 (gAL_text v) 2) (B' := fB_Mo_tide_17 m) (I := inT N (gMo_ints m)) (Q := outT (gMo_ints m)) (fun d s s' ih ih' hI go => tide_step hB hc hm d s s' ih ih' hI go) LF (N - 0 + 1) (0, (upd (upd (upd (gRe_ints (gAL_reader v)) 3 0) 4 (-1)) 7 0), r8, (gQu_places (gRe_quayDraft (gAL_reader v))), (gQu_strengths (gRe_quayDraft (gAL_reader v))), (upd (gPl_ints (gRe_planDraft (gAL_reader v))) 0 0), (gPl_seconds (gRe_planDraft (gAL_reader v))), (gPl_engines (gRe_planDraft (gAL_reader v))), (gPl_wheels (gRe_planDraft (gAL_reader v))), (upd (gTi_ints (gRe_tideDraft (gAL_reader v))) 0 0), (gTi_heights (gRe_tideDraft (gAL_reader v))), q.2, (gRe_row (gAL_reader v))) (0, (upd (upd (upd (gMo_ints m) 12 (-1)) 13 0) 24 0), (gMo_said m), (gMo_readRow m)) LF (by omega) (by omega) (by
    refine ⟨fun x x1 x2 x3 x4 x5 x6 => ?_, Or.inr ⟨0, 0, 0, ⟨?_, rfl, ?_, ?_, by omega, ?_, ?_, fun j hj => absurd hj (by omega)⟩, by omega, by omega, rfl, rfl, ?_, ?_, ?_, g3, ?_⟩⟩
    · show upd (upd (upd (gMo_ints m) 12 (-1)) 13 0) 24 0 x = _
      rw [upd_ne _ _ x6, upd_ne _ _ x2, upd_ne _ _ x1]
    · show upd (upd (upd (gRe_ints (gAL_reader v)) 3 0) 4 (-1)) 7 0 3 = 0
      rw [upd_ne _ _ (by decide), upd_ne _ _ (by decide), upd_eq]
    · show upd (upd (upd (gRe_ints (gAL_reader v)) 3 0) 4 (-1)) 7 0 4 = -1
      rw [upd_ne _ _ (by decide), upd_eq]
    · show upd (upd (upd (gMo_ints m) 12 (-1)) 13 0) 24 0 12 = -1
      rw [upd_ne _ _ (by decide), upd_ne _ _ (by decide), upd_eq]
    · show (upd (upd (upd (gMo_ints m) 12 (-1)) 13 0) 24 0 24).toInt = _
      rw [upd_eq]; rfl
    · show (upd (gTi_ints (gRe_tideDraft (gAL_reader v))) 0 0 0).toInt = _
      rw [upd_eq]; rfl
    · show (upd (upd (upd (gRe_ints (gAL_reader v)) 3 0) 4 (-1)) 7 0 7).toInt = _
      rw [upd_eq]; rfl
    · show (upd (upd (upd (gMo_ints m) 12 (-1)) 13 0) 24 0 13).toInt = _
      rw [upd_ne _ _ (by decide), upd_eq]; rfl
    · show (q.2 10).toInt = _
      rw [g1 10 (by decide)]; rfl
    · show upd (gPl_ints (gRe_planDraft (gAL_reader v))) 0 0 0 = 0
      rw [upd_eq])
  rw [k1, k2]
  exact ⟨_, _, rfl, rfl, k3⟩
end
