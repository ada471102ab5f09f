/-! THE PURE SIDE 25: images, side by side -/
theorem m_keepL {m : tMo} {i : Nat} (hi : i < 2) {p : Int32} (hp : p.toInt = (i : Int)) : ∃ r, f_Mo_keep m p = some r ∧ (r.1 = 1 ∧ (∀ k, k < 13 → r.2.1 (40 * i + k) = gMo_ship m k) ∧ (∀ k, k < 24 → (r.2.1 (40 * i + 13 + k)).toInt = (gMo_lines m k).toInt) ∧ (r.2.1 (40 * i + 37)).toInt = (gMo_ints m 26).toInt ∧ (∀ x, x < 40 * i ∨ 40 * i + 38 ≤ x → r.2.1 x = gMo_images m x) ∧ r.2.2 = upd (gMo_isKept m) i 1) := by
  have p40 := (rp.lit 40 40 (a := 40) rfl rfl).mul (rp.of 2 hp (by omega) (by omega)) (by decide)
  unfold f_Mo_keep
  rw [m_in (rp.of 2 hp (by omega) (by omega)).long (rq.lit 0 0 (a := 0) rfl rfl) (rq.lit 1 1 (a := 1) rfl rfl), if_pos (show (0 : Int) ≤ i ∧ (i : Int) ≤ 1 by omega), if_neg (show ¬ (1 : Int32) = 0 by decide)]
  have l1 : ∃ e, lp (fB_Mo_keep_15 m p) LF (0, gMo_images m) = some e ∧ ((∀ k, k < 13 → e.2 (40 * i + k) = gMo_ship m k) ∧ ∀ x, x < 40 * i ∨ 40 * i + 13 ≤ x → e.2 x = gMo_images m x) := by
    refine lp_inv (N := 13) (I := fun j t => t.1.toInt = (j : Int) ∧ (∀ k, k < j → t.2 (40 * i + k) = gMo_ship m k) ∧ ∀ x, x < 40 * i ∨ 40 * i + j ≤ x → t.2 x = gMo_images m x) (by decide) ?_ ?_ (i := 0) (by decide) ⟨rfl, fun k h => absurd h (by omega), fun x _ => rfl⟩
    · rintro j hj ⟨c, f⟩ ih ⟨a0, a1, a2⟩ go
      have a0 : c.toInt = (j : Int) := a0
      have a1 : ∀ k, k < j → f (40 * i + k) = gMo_ship m k := a1
      have a2 : ∀ x, x < 40 * i ∨ 40 * i + j ≤ x → f x = gMo_images m x := a2
      have e := (p40.add (rp.of 13 a0 (by omega) (by omega)) (by decide)).1
      have hin : inb c 13 = true := inb_ok (by omega) (by omega)
      have hin2 : inb (40 * p + c) 80 = true := inb_ok (by omega) (by omega)
      have hix2 : ix (40 * p + c) = 40 * i + j := ix_eq (by omega)
      simp only [fB_Mo_keep_15, if_pos hin, if_pos hin2, hix2, ix_eq a0]
      rw [if_neg (lt_lit a0 (N := 13) rfl hj)]
      refine go _ ⟨toInt_succ a0 (by omega), fun k hk => ?_, fun x hx => ?_⟩
      · show vp_updL f (40 * i + j) _ (40 * i + k) = _
        by_cases e : k = j
        · subst e; exact updL_eq _ _ _
        · rw [updL_ne _ _ (by omega)]; exact a1 k (by omega)
      · show vp_updL f (40 * i + j) _ x = _
        rw [updL_ne _ _ (by omega)]; exact a2 x (by omega)
    · rintro ⟨c, f⟩ ih ⟨a0, a1, a2⟩
      have a0 : c.toInt = ((13 : Nat) : Int) := a0
      simp only [fB_Mo_keep_15]
      rw [if_pos (ge_lit a0 (N := 13) rfl (by omega))]
      exact ⟨_, rfl, a1, a2⟩
  refine bind_ex' l1 (fun q4 h4 => ?_)
  have l2 : ∃ e, lp (fB_Mo_keep_46 m p) LF (0, q4.2) = some e ∧ ((∀ k, k < 24 → (e.2 (40 * i + 13 + k)).toInt = (gMo_lines m k).toInt) ∧ ∀ x, x < 40 * i + 13 ∨ 40 * i + 13 + 24 ≤ x → e.2 x = q4.2 x) := by
    refine lp_inv (N := 24) (I := fun j t => t.1.toInt = (j : Int) ∧ (∀ k, k < j → (t.2 (40 * i + 13 + k)).toInt = (gMo_lines m k).toInt) ∧ ∀ x, x < 40 * i + 13 ∨ 40 * i + 13 + j ≤ x → t.2 x = q4.2 x) (by decide) ?_ ?_ (i := 0) (by decide) ⟨rfl, fun k h => absurd h (by omega), fun x _ => rfl⟩
    · rintro j hj ⟨c, f⟩ ih ⟨a0, a1, a2⟩ go
      have a0 : c.toInt = (j : Int) := a0
      have a1 : ∀ k, k < j → (f (40 * i + 13 + k)).toInt = (gMo_lines m k).toInt := a1
      have a2 : ∀ x, x < 40 * i + 13 ∨ 40 * i + 13 + j ≤ x → f x = q4.2 x := a2
      have e := ((p40.add (rp.lit 13 13 (a := 13) rfl rfl) (by decide)).add (rp.of 24 a0 (by omega) (by omega)) (by decide)).1
      have hin : inb c 24 = true := inb_ok (by omega) (by omega)
      have hin2 : inb (40 * p + 13 + c) 80 = true := inb_ok (by omega) (by omega)
      have hix2 : ix (40 * p + 13 + c) = 40 * i + 13 + j := ix_eq (by omega)
      simp only [fB_Mo_keep_46, if_pos hin, if_pos hin2, hix2, ix_eq a0, zlet]
      rw [if_neg (lt_lit a0 (N := 24) rfl hj)]
      refine go _ ⟨toInt_succ a0 (by omega), fun k hk => ?_, fun x hx => ?_⟩
      · show (vp_updL f (40 * i + 13 + j) _ (40 * i + 13 + k)).toInt = _
        by_cases e : k = j
        · subst e; rw [updL_eq, Int32.toInt_toInt64]
        · rw [updL_ne _ _ (by omega)]; exact a1 k (by omega)
      · show vp_updL f (40 * i + 13 + j) _ x = _
        rw [updL_ne _ _ (by omega)]; exact a2 x (by omega)
    · rintro ⟨c, f⟩ ih ⟨a0, a1, a2⟩
      have a0 : c.toInt = ((24 : Nat) : Int) := a0
      simp only [fB_Mo_keep_46]
      rw [if_pos (ge_lit a0 (N := 24) rfl (by omega))]
      exact ⟨_, rfl, a1, a2⟩
  refine bind_ex' l2 (fun q12 h12 => ?_)
  have e37 := (p40.add (rp.lit 37 37 (a := 37) rfl rfl) (by decide)).1
  have hin2 : inb (40 * p + 37) 80 = true := inb_ok (by omega) (by omega)
  have hix2 : ix (40 * p + 37) = 40 * i + 37 := ix_eq (by omega)
  have hin3 : inb p 2 = true := inb_ok (by omega) (by omega)
  simp only [zlet, if_pos hin2, if_pos hin3, hix2, ix_eq hp]
  refine ⟨_, rfl, rfl, fun k hk => ?_, fun k hk => ?_, ?_, fun x hx => ?_, rfl⟩
  · show vp_updL q12.2 (40 * i + 37) _ (40 * i + k) = _
    rw [updL_ne _ _ (by omega), h12.2 _ (by omega)]; exact h4.1 k hk
  · show (vp_updL q12.2 (40 * i + 37) _ (40 * i + 13 + k)).toInt = _
    rw [updL_ne _ _ (by omega)]; exact h12.1 k hk
  · show (vp_updL q12.2 (40 * i + 37) _ (40 * i + 37)).toInt = _
    rw [updL_eq, Int32.toInt_toInt64]
  · show vp_updL q12.2 (40 * i + 37) _ x = _
    rw [updL_ne _ _ (by omega), h12.2 _ (by omega)]; exact h4.2 x (by omega)
theorem m_goBackL {m : tMo} {i : Nat} (hi : i < 2) {p : Int32} (hp : p.toInt = (i : Int)) (hk : ¬ gMo_isKept m i = 0) : ∃ r, f_Mo_goBack m p = some r ∧ (r.1 = 1 ∧ r.2.1 = upd (gMo_ints m) 26 (gMo_images m (40 * i + 37)).toInt32 ∧ (∀ k, k < 13 → r.2.2.1 k = gMo_images m (40 * i + k)) ∧ (∀ k, k < 24 → r.2.2.2 k = (gMo_images m (40 * i + 13 + k)).toInt32)) := by
  have p40 := (rp.lit 40 40 (a := 40) rfl rfl).mul (rp.of 2 hp (by omega) (by omega)) (by decide)
  have hin3 : inb p 2 = true := inb_ok (by omega) (by omega)
  unfold f_Mo_goBack
  rw [m_in (rp.of 2 hp (by omega) (by omega)).long (rq.lit 0 0 (a := 0) rfl rfl) (rq.lit 1 1 (a := 1) rfl rfl), if_pos (show (0 : Int) ≤ i ∧ (i : Int) ≤ 1 by omega), if_neg (show ¬ (1 : Int32) = 0 by decide), if_pos hin3, ix_eq hp, if_neg hk]
  have l1 : ∃ e, lp (fB_Mo_goBack_28 m p) LF (0, gMo_ship m) = some e ∧ (∀ k, k < 13 → e.2 k = gMo_images m (40 * i + k)) := by
    refine lp_inv (N := 13) (I := fun j t => t.1.toInt = (j : Int) ∧ (∀ k, k < j → t.2 k = gMo_images m (40 * i + k))) (by decide) ?_ ?_ (i := 0) (by decide) ⟨rfl, fun k h => absurd h (by omega)⟩
    · rintro j hj ⟨c, f⟩ ih ⟨a0, a1⟩ go
      have a0 : c.toInt = (j : Int) := a0
      have e := (p40.add (rp.of 13 a0 (by omega) (by omega)) (by decide)).1
      have hin : inb c 13 = true := inb_ok (by omega) (by omega)
      have hin2 : inb (40 * p + c) 80 = true := inb_ok (by omega) (by omega)
      have hix2 : ix (40 * p + c) = 40 * i + j := ix_eq (by omega)
      simp only [fB_Mo_goBack_28, if_pos hin, if_pos hin2, hix2, ix_eq a0, zlet]
      rw [if_neg (lt_lit a0 (N := 13) rfl hj)]
      exact go _ ⟨toInt_succ a0 (by omega), updL_lt (g := fun k => gMo_images m (40 * i + k)) a1⟩
    · rintro ⟨c, f⟩ ih ⟨a0, a1⟩
      have a0 : c.toInt = ((13 : Nat) : Int) := a0
      simp only [fB_Mo_goBack_28]
      rw [if_pos (ge_lit a0 (N := 13) rfl (by omega))]
      exact ⟨_, rfl, a1⟩
  refine bind_ex' l1 (fun q6 h6 => ?_)
  have l2 : ∃ e, lp (fB_Mo_goBack_59 m p) LF (0, gMo_lines m) = some e ∧ (∀ k, k < 24 → e.2 k = (gMo_images m (40 * i + 13 + k)).toInt32) := by
    refine lp_inv (N := 24) (I := fun j t => t.1.toInt = (j : Int) ∧ (∀ k, k < j → t.2 k = (gMo_images m (40 * i + 13 + k)).toInt32)) (by decide) ?_ ?_ (i := 0) (by decide) ⟨rfl, fun k h => absurd h (by omega)⟩
    · rintro j hj ⟨c, f⟩ ih ⟨a0, a1⟩ go
      have a0 : c.toInt = (j : Int) := a0
      have e := ((p40.add (rp.lit 13 13 (a := 13) rfl rfl) (by decide)).add (rp.of 24 a0 (by omega) (by omega)) (by decide)).1
      have hin : inb c 24 = true := inb_ok (by omega) (by omega)
      have hin2 : inb (40 * p + 13 + c) 80 = true := inb_ok (by omega) (by omega)
      have hix2 : ix (40 * p + 13 + c) = 40 * i + 13 + j := ix_eq (by omega)
      simp only [fB_Mo_goBack_59, if_pos hin, if_pos hin2, hix2, ix_eq a0, zlet]
      rw [if_neg (lt_lit a0 (N := 24) rfl hj)]
      exact go _ ⟨toInt_succ a0 (by omega), upd_lt (g := fun k => (gMo_images m (40 * i + 13 + k)).toInt32) a1⟩
    · rintro ⟨c, f⟩ ih ⟨a0, a1⟩
      have a0 : c.toInt = ((24 : Nat) : Int) := a0
      simp only [fB_Mo_goBack_59]
      rw [if_pos (ge_lit a0 (N := 24) rfl (by omega))]
      exact ⟨_, rfl, a1⟩
  refine bind_ex' l2 (fun q15 h15 => ?_)
  have e37 := (p40.add (rp.lit 37 37 (a := 37) rfl rfl) (by decide)).1
  have hin2 : inb (40 * p + 37) 80 = true := inb_ok (by omega) (by omega)
  have hix2 : ix (40 * p + 37) = 40 * i + 37 := ix_eq (by omega)
  simp only [zlet, if_pos hin2, hix2]
  exact ⟨_, rfl, rfl, rfl, h6, h15⟩
theorem RelI.of_images {c : Int} {q : Nat → Int} {k k' : Int32} {w : tSh} {f f' : Nat → Int64} {i : Nat} (h : RelI c q k w k' f i) (e : ∀ x, 40 * i ≤ x → x < 40 * i + 38 → f' x = f x) : RelI c q k w k' f' i := by
  rcases h with h | ⟨h1, h2, s, L, h3, h4, h5, h6, h7, h8, h9, h10⟩
  · exact Or.inl h
  · refine Or.inr ⟨h1, h2, s, L, h3, h4, h5, h6, h7.of_eq (fun j hj => e _ (by omega) (by omega)), fun j hj => ⟨by rw [e _ (by omega) (by omega)]; exact (h8 j hj).1, (h8 j hj).2⟩, by rw [e _ (by omega) (by omega)]; exact h9, h10⟩
section
variable {n : Nat} {v : tAL} {m : tMo}
theorem p_keep (h : Rel n v m) (p : Int32) : ∃ r r', f_AL_keep v p = some r ∧ f_Mo_keep m p = some r' ∧ (r.1 = r'.1 ∧ Rel (n + 1) (sAL_kept (sAL_images1 (sAL_images0 v (r.2.1, r.2.2.1, (r.2.2.2.1, r.2.2.2.2.1, r.2.2.2.2.2.1, r.2.2.2.2.2.2.1))) (r.2.2.2.2.2.2.2.1, r.2.2.2.2.2.2.2.2.1, (r.2.2.2.2.2.2.2.2.2.1, r.2.2.2.2.2.2.2.2.2.2.1, r.2.2.2.2.2.2.2.2.2.2.2.1, r.2.2.2.2.2.2.2.2.2.2.2.2.1))) r.2.2.2.2.2.2.2.2.2.2.2.2.2) (sMo_isKept (sMo_images m r'.2.1) r'.2.2)) := by
  have h0 := h.next
  obtain ⟨q, px, ps, s, L, np, T, E, R, nh, H, h1, h2, h3, h4, h5, h6, h7, h8, h9⟩ := h.next
  have hp := rp.any p
  by_cases c : 0 ≤ p.toInt ∧ p.toInt ≤ 1
  · have c1 : ¬ p < 0 := fun g => by have := (hp.lt (rp.lit 0 0 (a := 0) rfl rfl)).mp g; omega
    have c2 : p < 2 := (hp.lt (rp.lit 2 2 (a := 2) rfl rfl)).mpr (by omega)
    have hin3 : inb p 2 = true := inb_ok (by omega) (by omega)
    unfold f_AL_keep
    rw [if_neg c1, if_pos c2]
    by_cases d : p = 0
    · have hk : p.toInt = ((0 : Nat) : Int) := by rw [d]; rfl
      obtain ⟨r', e', j1, j2, j3, j4, j5, j6⟩ := m_keepL (m := m) (i := 0) (by decide) hk
      obtain ⟨rc, ec, kc⟩ := c_copy (v0 := gAL_images0 v) h4.2.2.1 h4.2.1 h4.2.2.2.1
      rw [if_pos d, ec, Option.bind_some, if_pos hin3, ix_eq hk, e']
      refine ⟨_, _, rfl, rfl, j1.symm, ⟨q, px, ps, s, L, np, T, E, R, nh, H, h1, h2, h3, h4, h5, h6, h7, ?_, ?_⟩⟩
      · refine Or.inr ⟨rfl, ?_, s, L, h4.1, h4.2.1, kc.1, kc.2.2, h4.2.2.2.2.1.of_eq j2, fun j hj => ⟨(j3 j hj).trans (h4.2.2.2.2.2.1 j hj), by rw [← h4.2.2.2.2.2.1 j hj]; have := (gMo_lines m j).le_toInt; omega, by rw [← h4.2.2.2.2.2.1 j hj]; have := (gMo_lines m j).toInt_lt; omega⟩, ?_, ?_⟩
        · show r'.2.2 0 = 1
          rw [j6]; exact upd_eq _ _ _
        · show (rc.1 12).toInt = _
          rw [kc.2.1, h4.2.2.2.2.2.2.1]; exact j4.symm
        · show 0 ≤ (rc.1 12).toInt
          rw [kc.2.1, h4.2.2.2.2.2.2.1]; exact h4.2.2.2.2.2.2.2
      · have h9' : RelI (600 * ((n + 1 : Nat) : Int)) q (gAL_kept v 1) (gAL_images1 v) (gMo_isKept m 1) r'.2.1 1 := h9.of_images (fun x hx1 hx2 => j5 x (by omega))
        rw [show gMo_isKept m 1 = r'.2.2 1 by rw [j6]; rfl] at h9'
        exact h9'
    · have d1 : p = 1 := Int32.toInt_inj.mp (by
        have : ¬ p.toInt = 0 := fun g => d (Int32.toInt_inj.mp g)
        show p.toInt = 1
        omega)
      have hk : p.toInt = ((1 : Nat) : Int) := by rw [d1]; rfl
      obtain ⟨r', e', j1, j2, j3, j4, j5, j6⟩ := m_keepL (m := m) (i := 1) (by decide) hk
      obtain ⟨rc, ec, kc⟩ := c_copy (v0 := gAL_images1 v) h4.2.2.1 h4.2.1 h4.2.2.2.1
      rw [if_neg d, if_pos d1, ec, Option.bind_some, if_pos hin3, ix_eq hk, e']
      refine ⟨_, _, rfl, rfl, j1.symm, ⟨q, px, ps, s, L, np, T, E, R, nh, H, h1, h2, h3, h4, h5, h6, h7, ?_, ?_⟩⟩
      · have h8' : RelI (600 * ((n + 1 : Nat) : Int)) q (gAL_kept v 0) (gAL_images0 v) (gMo_isKept m 0) r'.2.1 0 := h8.of_images (fun x hx1 hx2 => j5 x (by omega))
        rw [show gMo_isKept m 0 = r'.2.2 0 by rw [j6]; rfl] at h8'
        exact h8'
      · refine Or.inr ⟨rfl, ?_, s, L, h4.1, h4.2.1, kc.1, kc.2.2, h4.2.2.2.2.1.of_eq j2, fun j hj => ⟨(j3 j hj).trans (h4.2.2.2.2.2.1 j hj), by rw [← h4.2.2.2.2.2.1 j hj]; have := (gMo_lines m j).le_toInt; omega, by rw [← h4.2.2.2.2.2.1 j hj]; have := (gMo_lines m j).toInt_lt; omega⟩, ?_, ?_⟩
        · show r'.2.2 1 = 1
          rw [j6]; exact upd_eq _ _ _
        · show (rc.1 12).toInt = _
          rw [kc.2.1, h4.2.2.2.2.2.2.1]; exact j4.symm
        · show 0 ≤ (rc.1 12).toInt
          rw [kc.2.1, h4.2.2.2.2.2.2.1]; exact h4.2.2.2.2.2.2.2
  · unfold f_AL_keep f_Mo_keep
    rcases m_inI p (rq.lit 0 0 (a := 0) rfl rfl) (rq.lit 1 1 (a := 1) rfl rfl) with ⟨e1, e2⟩ | ⟨e1, e2⟩
    · exact absurd e1 c
    · rw [e2, if_pos rfl]
      by_cases c1 : p < 0
      · rw [if_pos c1]; exact ⟨_, _, rfl, rfl, rfl, h0⟩
      · have c1' : ¬ _ := fun g => c1 ((hp.lt (rp.lit 0 0 (a := 0) rfl rfl)).mpr g)
        have c2 : ¬ p < 2 := fun g => by have := (hp.lt (rp.lit 2 2 (a := 2) rfl rfl)).mp g; omega
        rw [if_neg c1, if_neg c2]; exact ⟨_, _, rfl, rfl, rfl, h0⟩
theorem p_goBack (h : Rel n v m) (p : Int32) : ∃ r r', f_AL_goBack v p = some r ∧ f_Mo_goBack m p = some r' ∧ (r.1 = r'.1 ∧ Rel (n + 1) (sAL_ship v (r.2.1, r.2.2.1, (r.2.2.2.1, r.2.2.2.2.1, r.2.2.2.2.2.1, r.2.2.2.2.2.2))) (sMo_ints (sMo_lines (sMo_ship m r'.2.2.1) r'.2.2.2) r'.2.1)) := by
  have h0 := h.next
  obtain ⟨q, px, ps, s, L, np, T, E, R, nh, H, h1, h2, h3, h4, h5, h6, h7, h8, h9⟩ := h.next
  have hp := rp.any p
  have key : ∀ (i : Nat) (hi : i < 2) (w : tSh) (hI : RelI (600 * ((n + 1 : Nat) : Int)) q (gAL_kept v i) w (gMo_isKept m i) (gMo_images m) i), p.toInt = (i : Int) → (gAL_kept v i = 0 → f_AL_goBack v p = some (-1000000003, gSh_ints (gAL_ship v), gSh_harm (gAL_ship v), gLi_fast (gSh_lines (gAL_ship v)), gLi_place (gSh_lines (gAL_ship v)), gLi_post (gSh_lines (gAL_ship v)), gLi_length (gSh_lines (gAL_ship v)))) → (¬ gAL_kept v i = 0 → f_AL_goBack v p = Option.bind (f_Sh_copyFrom (gAL_ship v) w) (fun (r6 : (Nat → Int32) × Int64 × (Nat → Int32) × (Nat → Int32) × (Nat → Int32) × (Nat → Int32)) => some (1, r6.1, r6.2.1, r6.2.2.1, r6.2.2.2.1, r6.2.2.2.2.1, r6.2.2.2.2.2))) → ∃ r r', f_AL_goBack v p = some r ∧ f_Mo_goBack m p = some r' ∧ (r.1 = r'.1 ∧ Rel (n + 1) (sAL_ship v (r.2.1, r.2.2.1, (r.2.2.2.1, r.2.2.2.2.1, r.2.2.2.2.2.1, r.2.2.2.2.2.2))) (sMo_ints (sMo_lines (sMo_ship m r'.2.2.1) r'.2.2.2) r'.2.1)) := by
    intro i hi w hI hk g0 g1
    rcases hI with ⟨e1, e2⟩ | ⟨e1, e2, s', L', a1, a2, a3, a4, a5, a6, a7, a8⟩
    · rw [g0 e1]
      unfold f_Mo_goBack
      rw [m_in (rp.of 2 hk (by omega) (by omega)).long (rq.lit 0 0 (a := 0) rfl rfl) (rq.lit 1 1 (a := 1) rfl rfl), if_pos (show (0 : Int) ≤ i ∧ (i : Int) ≤ 1 by omega), if_neg (show ¬ (1 : Int32) = 0 by decide), if_pos (inb_ok (by omega) (by omega)), ix_eq hk, if_pos e2]
      exact ⟨_, _, rfl, rfl, rfl, h0⟩
    · rw [g1 (by rw [e1]; decide)]
      obtain ⟨r', e', j1, j2, j3, j4⟩ := m_goBackL (m := m) hi hk (by rw [e2]; decide)
      obtain ⟨rc, ec, kc⟩ := c_copy (v0 := gAL_ship v) a3 a2 a4
      rw [ec, e']
      have sd : (gMo_images m (40 * i + 37)).toInt32.toInt = (gSh_ints w 12).toInt := by
        have hl := (gSh_ints w 12).toInt_lt
        exact ((rq.of 2147483647 a7.symm (by omega) (by omega)).int (by decide)).1
      have h2' : r'.2.1 26 = (gMo_images m (40 * i + 37)).toInt32 := by rw [j2]; exact upd_eq _ _ _
      refine ⟨_, _, rfl, rfl, j1.symm, Rel.lines (s := s') (L := L') (h1.ints ?_) (h2.ints ?_) (h3.ints ?_) (h5.ints ?_) (h6.ints ?_ rfl) (h7.ints ?_ rfl) h8 h9 ⟨a1, a2, kc.1, kc.2.2, a5.of_eq j3, fun k hk => ?_, ?_, ?_⟩⟩
      · rw [j2]; rfl
      · rw [j2]; rfl
      · rw [j2]; rfl
      · rw [j2]; rfl
      · rw [j2]; rfl
      · rw [j2]; rfl
      · rw [j4 k hk]
        have b := a6 k hk
        rw [Int64.toInt_toInt32, b.1]
        exact zbm32 b.2.1 b.2.2
      · show rc.1 12 = r'.2.1 26
        rw [h2', kc.2.1]; exact Int32.toInt_inj.mp sd.symm
      · rw [h2', sd]; exact a8
  by_cases c : 0 ≤ p.toInt ∧ p.toInt ≤ 1
  · have c1 : ¬ p < 0 := fun g => by have := (hp.lt (rp.lit 0 0 (a := 0) rfl rfl)).mp g; omega
    have c2 : p < 2 := (hp.lt (rp.lit 2 2 (a := 2) rfl rfl)).mpr (by omega)
    have hin3 : inb p 2 = true := inb_ok (by omega) (by omega)
    by_cases d : p = 0
    · have hk : p.toInt = ((0 : Nat) : Int) := by rw [d]; rfl
      refine key 0 (by decide) _ h8 hk (fun g => ?_) (fun g => ?_)
      · unfold f_AL_goBack
        rw [if_neg c1, if_pos c2, if_pos hin3, ix_eq hk, if_pos g]
      · unfold f_AL_goBack
        rw [if_neg c1, if_pos c2, if_pos hin3, ix_eq hk, if_neg g, if_pos d]
    · have d1 : p = 1 := Int32.toInt_inj.mp (by
        have : ¬ p.toInt = 0 := fun g => d (Int32.toInt_inj.mp g)
        show p.toInt = 1
        omega)
      have hk : p.toInt = ((1 : Nat) : Int) := by rw [d1]; rfl
      refine key 1 (by decide) _ h9 hk (fun g => ?_) (fun g => ?_)
      · unfold f_AL_goBack
        rw [if_neg c1, if_pos c2, if_pos hin3, ix_eq hk, if_pos g]
      · unfold f_AL_goBack
        rw [if_neg c1, if_pos c2, if_pos hin3, ix_eq hk, if_neg g, if_neg d, if_pos d1]
  · unfold f_AL_goBack f_Mo_goBack
    rcases m_inI p (rq.lit 0 0 (a := 0) rfl rfl) (rq.lit 1 1 (a := 1) rfl rfl) with ⟨e1, e2⟩ | ⟨e1, e2⟩
    · exact absurd e1 c
    · rw [e2, if_pos rfl]
      by_cases c1 : p < 0
      · rw [if_pos c1]; exact ⟨_, _, rfl, rfl, rfl, h0⟩
      · have c1' : ¬ _ := fun g => c1 ((hp.lt (rp.lit 0 0 (a := 0) rfl rfl)).mpr g)
        have c2 : ¬ p < 2 := fun g => by have := (hp.lt (rp.lit 2 2 (a := 2) rfl rfl)).mp g; omega
        rw [if_neg c1, if_neg c2]; exact ⟨_, _, rfl, rfl, rfl, h0⟩
end
