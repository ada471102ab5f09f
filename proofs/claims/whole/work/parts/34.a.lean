/-! THE PURE SIDE 29: feed, side by side -/
theorem byte_b (y : Int64) : 0 ≤ ((y &&& 255).toInt32).toInt ∧ ((y &&& 255).toInt32).toInt ≤ 255 := by
  have e : (y &&& 255).toBitVec.toNat ≤ 255 := by
    rw [Int64.toBitVec_and, BitVec.toNat_and]
    exact Nat.and_le_right
  have t : (y &&& 255).toInt = ((y &&& 255).toBitVec.toNat : Int) := BitVec.toInt_eq_toNat_of_lt (by omega)
  have r : rq (y &&& 255) ((y &&& 255).toBitVec.toNat : Int) 255 := ⟨t, by omega, by omega⟩
  have k := (r.int (by decide)).1
  rw [k]; omega
theorem byte_eq (y : Int64) : y.toInt32 &&& 255 = (y &&& 255).toInt32 := by
  rw [Int64.toInt32_and]; rfl
noncomputable def byteI (p : Int64) (i : Nat) : Int32 := ((p >>> ((8 * Int32.ofNat i).toInt64 &&& 63)) &&& 255).toInt32
section
variable {n : Nat} {v : tAL} {m : tMo}
theorem p_feed (h : Rel n v m) (p1 : Int32) (p2 : Int64) : ∃ r r', f_AL_feed v p1 p2 = some r ∧ f_Mo_feed m p1 p2 = some r' ∧ (r.1 = r'.1 ∧ Rel (n + 1) (sAL_text v (r.2.1, r.2.2)) (sMo_text (sMo_ints m r'.2.1) r'.2.2)) := by
  have h0 := h.next
  obtain ⟨q, px, ps, s, L, np, T, E, R, nh, H, h1, h2, h3, h4, h5, h6, h7, h8, h9⟩ := h.next
  obtain ⟨tn, t1, t2, t3, t4⟩ := h5
  have no : ∀ x : Int32, ∃ r r', (some (x, gTe_ints (gAL_text v), gTe_bytes (gAL_text v)) = some r ∧ some (x, gMo_ints m, gMo_text m) = some r' ∧ (r.1 = r'.1 ∧ Rel (n + 1) (sAL_text v (r.2.1, r.2.2)) (sMo_text (sMo_ints m r'.2.1) r'.2.2))) := fun x => ⟨_, _, rfl, rfl, rfl, h0⟩
  have hp := rp.any p1
  have ta := rp.of 300 t2 (by omega) (by omega)
  have tb := rp.of 300 t3 (by omega) (by omega)
  unfold f_AL_feed f_Mo_feed
  rcases m_inI p1 (rq.lit 1 1 (a := 1) rfl rfl) (rq.lit 8 8 (a := 8) rfl rfl) with ⟨f1, f2⟩ | ⟨f1, f2⟩
  · have c1 : ¬ p1 < 1 := fun g => by have := (hp.lt (rp.lit 1 1 (a := 1) rfl rfl)).mp g; omega
    have c2 : p1 ≤ 8 := (hp.le (rp.lit 8 8 (a := 8) rfl rfl)).mpr f1.2
    rw [f2, if_neg (show ¬ (1 : Int32) = 0 by decide), if_neg c1, if_pos c2]
    have hp8 : rp p1 p1.toInt 8 := ⟨rfl, by omega, by omega⟩
    have sa := ta.add hp8 (by decide)
    have sb := tb.add hp8 (by decide)
    by_cases c3 : gTe_ints (gAL_text v) 1 + p1 ≤ 300
    · have c3' := (sa.le (rp.lit 300 300 (a := 300) rfl rfl)).mp c3
      have c4 : gMo_ints m 11 + p1 ≤ 300 := (sb.le (rp.lit 300 300 (a := 300) rfl rfl)).mpr c3'
      rw [if_pos c3, if_pos c4]
      have hk : p1.toInt = (p1.toInt.toNat : Int) := by omega
      generalize hN : p1.toInt.toNat = N at hk
      have z1 : (p1 - 1).toInt = (N : Int) - 1 := by rw [(hp8.sub (rp.lit 1 1 (a := 1) rfl rfl) (by decide)).1]; omega
      unfold f_Te_append
      simp only [zlet]
      have loop : ∃ e, lp (fB_Te_append_5 p2) LF (p1 - 1, gTe_ints (gAL_text v), gTe_bytes (gAL_text v)) = some e ∧ ((e.2.1 1).toInt = ((tn + N : Nat) : Int) ∧ (∀ x, x < tn → e.2.2 x = gTe_bytes (gAL_text v) x) ∧ ∀ j, j < N → e.2.2 (tn + j) = byteI p2 (N - 1 - j)) := by
        refine lp_inv (N := N) (I := fun k t => t.1.toInt = (N : Int) - 1 - (k : Int) ∧ (t.2.1 1).toInt = ((tn + k : Nat) : Int) ∧ (∀ x, x < tn → t.2.2 x = gTe_bytes (gAL_text v) x) ∧ ∀ j, j < k → t.2.2 (tn + j) = byteI p2 (N - 1 - j)) (by omega) ?_ ?_ (i := 0) (by omega) ⟨by show (p1 - 1).toInt = _; rw [z1]; omega, t2, fun x _ => rfl, fun j g => absurd g (by omega)⟩
        · rintro k hk' ⟨c, f, g⟩ ih ⟨a1, a2, a3, a4⟩ go
          have a1 : c.toInt = (N : Int) - 1 - (k : Int) := a1
          have a2 : (f 1).toInt = ((tn + k : Nat) : Int) := a2
          have a3 : ∀ x, x < tn → g x = gTe_bytes (gAL_text v) x := a3
          have a4 : ∀ j, j < k → g (tn + j) = byteI p2 (N - 1 - j) := a4
          have ec : c = Int32.ofNat (N - 1 - k) := lit_of (by rw [a1]; omega) (by omega)
          have c1 : ¬ c < 0 := by rw [Int32.lt_iff_toInt_lt, a1]; show ¬ ((N : Int) - 1 - k) < 0; omega
          have c2 : ¬ (300 : Int32) ≤ f 1 := lt_lit a2 (N := 300) rfl (by omega)
          simp only [fB_Te_append_5]
          rw [if_neg c1, if_neg c2, byte_eq]
          refine zlet_ex fun z9 h9 => ?_
          rw [if_pos (inb_ok (by omega) (by omega)), ix_eq a2]
          refine zlet_ex fun z11 h11 => ?_
          refine go _ ⟨?_, ?_, fun x hx => ?_, fun j hj => ?_⟩
          · show (c + (-1)).toInt = _
            rw [toInt_pred a1 (by omega)]; omega
          · show (upd f 1 z11 1).toInt = _
            rw [upd_eq, h11, toInt_succ a2 (by omega)]; omega
          · show upd g (tn + k) z9 x = _
            rw [upd_ne _ _ (by omega)]; exact a3 x hx
          · show upd g (tn + k) z9 (tn + j) = _
            by_cases e : j = k
            · subst e; rw [upd_eq, h9, ec]; rfl
            · rw [upd_ne _ _ (by omega)]; exact a4 j (by omega)
        · rintro ⟨c, f, g⟩ ih ⟨a1, a2, a3, a4⟩
          have a1 : c.toInt = (N : Int) - 1 - (N : Int) := a1
          have c1 : c < 0 := by rw [Int32.lt_iff_toInt_lt, a1]; show ((N : Int) - 1 - N) < 0; omega
          simp only [fB_Te_append_5]
          rw [if_pos c1]
          exact ⟨_, rfl, a2, a3, a4⟩
      have mloop : ∃ e, lp (fB_Mo_feed_35 p2) LF (p1 - 1, gMo_ints m, gMo_text m) = some e ∧ ((e.2.1 11).toInt = ((tn + N : Nat) : Int) ∧ (∀ x, x ≠ 11 → e.2.1 x = gMo_ints m x) ∧ (∀ x, x < tn → e.2.2 x = gMo_text m x) ∧ ∀ j, j < N → e.2.2 (tn + j) = byteI p2 (N - 1 - j)) := by
        refine lp_inv (N := N) (I := fun k t => t.1.toInt = (N : Int) - 1 - (k : Int) ∧ (t.2.1 11).toInt = ((tn + k : Nat) : Int) ∧ (∀ x, x ≠ 11 → t.2.1 x = gMo_ints m x) ∧ (∀ x, x < tn → t.2.2 x = gMo_text m x) ∧ ∀ j, j < k → t.2.2 (tn + j) = byteI p2 (N - 1 - j)) (by omega) ?_ ?_ (i := 0) (by omega) ⟨by show (p1 - 1).toInt = _; rw [z1]; omega, t3, fun x _ => rfl, fun x _ => rfl, fun j g => absurd g (by omega)⟩
        · rintro k hk' ⟨c, f, g⟩ ih ⟨a1, a2, a5, a3, a4⟩ go
          have a1 : c.toInt = (N : Int) - 1 - (k : Int) := a1
          have a2 : (f 11).toInt = ((tn + k : Nat) : Int) := a2
          have a5 : ∀ x, x ≠ 11 → f x = gMo_ints m x := a5
          have a3 : ∀ x, x < tn → g x = gMo_text m x := a3
          have a4 : ∀ j, j < k → g (tn + j) = byteI p2 (N - 1 - j) := a4
          have ec : c = Int32.ofNat (N - 1 - k) := lit_of (by rw [a1]; omega) (by omega)
          have c1 : ¬ c < 0 := by rw [Int32.lt_iff_toInt_lt, a1]; show ¬ ((N : Int) - 1 - k) < 0; omega
          simp only [fB_Mo_feed_35]
          rw [if_neg c1]
          refine zlet_ex fun z9 h9 => ?_
          rw [if_pos (inb_ok (by omega) (by omega)), ix_eq a2]
          refine zlet_ex fun z11 h11 => ?_
          refine go _ ⟨?_, ?_, fun x hx => ?_, fun x hx => ?_, fun j hj => ?_⟩
          · show (c + (-1)).toInt = _
            rw [toInt_pred a1 (by omega)]; omega
          · show (upd f 11 z11 11).toInt = _
            rw [upd_eq, h11, toInt_succ a2 (by omega)]; omega
          · show upd f 11 z11 x = _
            rw [upd_ne _ _ hx]; exact a5 x hx
          · show upd g (tn + k) z9 x = _
            rw [upd_ne _ _ (by omega)]; exact a3 x hx
          · show upd g (tn + k) z9 (tn + j) = _
            by_cases e : j = k
            · subst e; rw [upd_eq, h9, ec]; rfl
            · rw [upd_ne _ _ (by omega)]; exact a4 j (by omega)
        · rintro ⟨c, f, g⟩ ih ⟨a1, a2, a5, a3, a4⟩
          have a1 : c.toInt = (N : Int) - 1 - (N : Int) := a1
          have c1 : c < 0 := by rw [Int32.lt_iff_toInt_lt, a1]; show ((N : Int) - 1 - N) < 0; omega
          simp only [fB_Mo_feed_35]
          rw [if_pos c1]
          exact ⟨_, rfl, a2, a5, a3, a4⟩
      obtain ⟨el, e3, k1, k2, k3⟩ := loop
      obtain ⟨em, e4, j1, j5, j2, j3⟩ := mloop
      rw [e3, e4]
      refine ⟨_, _, rfl, rfl, Int32.toInt_inj.mp (k1.trans j1.symm), ⟨q, px, ps, s, L, np, T, E, R, nh, H, h1.ints (j5 1 (by decide)), h2.ints (j5 4 (by decide)), h3.ints (j5 6 (by decide)), h4.ints (j5 26 (by decide)), ⟨tn + N, by omega, k1, j1, fun k hk => ?_⟩, h6.ints (j5 30 (by decide)) rfl, h7.ints (j5 12 (by decide)) rfl, h8, h9⟩⟩
      show el.2.2 k = em.2.2 k ∧ 0 ≤ (em.2.2 k).toInt ∧ (em.2.2 k).toInt ≤ 255
      rcases Nat.lt_or_ge k tn with g | g
      · rw [k2 k g, j2 k g]; exact t4 k g
      · obtain ⟨d, rfl⟩ := Nat.le.dest g
        rw [k3 d (by omega), j3 d (by omega)]
        exact ⟨rfl, byte_b _⟩
    · have c3' : ¬ _ := fun g => c3 ((sa.le (rp.lit 300 300 (a := 300) rfl rfl)).mpr g)
      have c4 : ¬ gMo_ints m 11 + p1 ≤ 300 := fun g => c3' ((sb.le (rp.lit 300 300 (a := 300) rfl rfl)).mp g)
      rw [if_neg c3, if_neg c4]; exact no _
  · rw [f2, if_pos rfl]
    by_cases c1 : p1 < 1
    · rw [if_pos c1]; exact no _
    · have c1' : ¬ _ := fun g => c1 ((hp.lt (rp.lit 1 1 (a := 1) rfl rfl)).mpr g)
      rw [if_neg c1, if_neg (fun g => by have := (hp.le (rp.lit 8 8 (a := 8) rfl rfl)).mp g; omega)]; exact no _
end
