/-! THE PURE SIDE 28: nights, side by side -/
theorem c_deck (k : Int32) : okI (0 ≤ k.toInt ∧ k.toInt ≤ 999) (f_Ni_isDeck k) := by
  have h := rp.any k
  unfold f_Ni_isDeck
  by_cases c1 : k < 0
  · have c1' := (h.lt (rp.lit 0 0 (a := 0) rfl rfl)).mp c1
    rw [if_pos c1]; exact Or.inr ⟨by omega, rfl⟩
  · have c1' : ¬ _ := fun g => c1 ((h.lt (rp.lit 0 0 (a := 0) rfl rfl)).mpr g)
    rw [if_neg c1]
    by_cases c2 : 999 < k
    · have c2' := ((rp.lit 999 999 (a := 999) rfl rfl).lt h).mp c2
      rw [if_pos c2]; exact Or.inr ⟨by omega, rfl⟩
    · have c2' : ¬ _ := fun g => c2 (((rp.lit 999 999 (a := 999) rfl rfl).lt h).mpr g)
      rw [if_neg c2]; exact Or.inl ⟨by omega, rfl⟩
theorem m_deck (k : Int32) : okI (0 ≤ k.toInt ∧ k.toInt ≤ 999) (f_Mo_isDeck k) := m_inI k (rq.lit 0 0 (a := 0) rfl rfl) (rq.lit 999 999 (a := 999) rfl rfl)
section
variable {n : Nat} {v : tAL} {m : tMo}
theorem c_lineAlong {w : tSh} {u : tQu} {q px ps s L : Nat → Int} {c : Int} (hS : cS (gSh_ints w) (gSh_harm w) s) (hR : RB c s) (hQ : cQ u q px ps) (hB : QB q px ps) (hL : LB q L) (hl : cL (gLi_fast (gSh_lines w)) (gLi_place (gSh_lines w)) (gLi_post (gSh_lines w)) (gLi_length (gSh_lines w)) L) {l : Nat} (h6 : l < 6) {p : Int32} (hp : p.toInt = (l : Int)) (hf : L (4 * l) = 1) : ∃ e, f_Sh_lineAlong w u p = some e ∧ rp e (wayI q px s (L (4 * l + 1)) (L (4 * l + 2))) 34499 := by
  have lb := hL_of hL h6 hf
  have cl := (hl l h6).2 hf
  have hin : inb p 6 = true := inb_ok (by omega) (by omega)
  obtain ⟨e, e1, e2⟩ := c_way hS hR.1 (by decide) hQ hB (rp.of 100 cl.1 (by omega) (by omega)) cl.2.1 lb.2.1.1 lb.2.1.2
  refine ⟨e, ?_, e2⟩
  unfold f_Sh_lineAlong
  rcases c_isFast hL hl p with ⟨_, g⟩ | ⟨g, _⟩
  · rw [g, Option.bind_some, if_neg (show ¬ (1 : Int32) = 0 by decide), if_pos hin, if_pos hin, ix_eq hp, e1, Option.bind_some]
  · exact absurd ⟨l, h6, hp, hf⟩ g
theorem p_needs (h : Rel n v m) (p1 p2 p3 : Int32) : ∃ r r', f_AL_needs v p1 p2 p3 = some r ∧ f_Mo_needs m p1 p2 p3 = some r' ∧ (r = r' ∧ Rel (n + 1) v m) := by
  have h0 := h.next
  obtain ⟨q, px, ps, s, L, np, T, E, R, nh, H, h1, h2, h3, h4, h5, h6, h7, h8, h9⟩ := h.next
  have t24 := h3.1
  unfold f_AL_needs f_Mo_needs
  refine bind2 (c_isFast h4.2.1 h4.2.2.2.1 p1).ex (m_isFastO h4.2.2.2.2.2.1 p1).ex (fun a a' ha ha' => ?_)
  refine ite2 ha ha' (fun _ => ⟨_, _, rfl, rfl, rfl, h0⟩) (fun hA => ?_)
  obtain ⟨l, hl, hk, hf⟩ := hA
  have ch : okI (0 ≤ p2.toInt ∧ p2.toInt < (nh : Int)) (f_Ti_hasHour (gAL_tide v) p2) := by
    unfold f_Ti_hasHour
    have hp := rp.any p2
    by_cases c1 : p2 < 0
    · have c1' := (hp.lt (rp.lit 0 0 (a := 0) rfl rfl)).mp c1
      rw [if_pos c1]; exact Or.inr ⟨by omega, rfl⟩
    · have c1' : ¬ _ := fun g => c1 ((hp.lt (rp.lit 0 0 (a := 0) rfl rfl)).mpr g)
      rw [if_neg c1]
      by_cases c2 : gTi_ints (gAL_tide v) 0 ≤ p2
      · rw [if_pos c2]
        rw [Int32.le_iff_toInt_le, h3.2.2.1] at c2
        exact Or.inr ⟨by omega, rfl⟩
      · rw [if_neg c2]
        rw [Int32.le_iff_toInt_le, h3.2.2.1] at c2
        rw [if_neg (fun g => by have := ((rp.lit 24 24 (a := 24) rfl rfl).le hp).mp g; omega)]
        exact Or.inl ⟨by omega, rfl⟩
  have mh : okI (0 ≤ p2.toInt ∧ p2.toInt < (nh : Int)) (f_Mo_in p2.toInt64 0 (gMo_ints m 6 - 1).toInt64) := by
    have hp6 : rp (gMo_ints m 6) (nh : Int) 24 := ⟨h3.2.2.2.1, by omega, by omega⟩
    rcases m_inI p2 (rq.lit 0 0 (a := 0) rfl rfl) (hp6.sub (rp.lit 1 1 (a := 1) rfl rfl) (by decide)).long with ⟨f1, f2⟩ | ⟨f1, f2⟩
    · exact Or.inl ⟨by omega, f2⟩
    · exact Or.inr ⟨by omega, f2⟩
  refine ite2 ch mh (fun _ => ⟨_, _, rfl, rfl, rfl, h0⟩) (fun hH => ?_)
  refine ite2 (c_deck p3) (m_deck p3) (fun _ => ⟨_, _, rfl, rfl, rfl, h0⟩) (fun hD => ?_)
  have hk2 : p2.toInt = (p2.toInt.toNat : Int) := by omega
  have hlt : p2.toInt.toNat < nh := by omega
  obtain ⟨e, e1, e2⟩ := c_lineAlong (w := gAL_ship v) (u := gAL_quay v) h4.2.2.1 h4.1 h1.2.1 h1.1 h4.2.1 h4.2.2.2.1 hl hk hf
  have eh : f_Ti_heightAt (gAL_tide v) p2 = some (gTi_heights (gAL_tide v) p2.toInt.toNat) := by
    unfold f_Ti_heightAt
    rcases ch with ⟨_, g⟩ | ⟨g, _⟩
    · rw [g, if_neg (show ¬ (1 : Int32) = 0 by decide), if_pos (inb_ok (by omega) (by omega)), ix_eq hk2]
    · exact absurd hH g
  have hb := h3.2.1 _ hlt
  have hd3 : rp p3 p3.toInt 999 := ⟨rfl, by omega, by omega⟩
  obtain ⟨en, en1, en2⟩ := c_need e2 hd3 (rp.of (a := gTi_heights (gAL_tide v) p2.toInt.toNat) 999 (h3.2.2.2.2 _ hlt).1 (by omega) (by omega))
  obtain ⟨em, em1, em2⟩ := m_need (m := m) h4.2.2.2.2.1 h4.1 h1.2.2 h1.1 h4.2.1 h4.2.2.2.2.2.1 hl hk hf (k := p2.toInt.toNat) (by omega) hk2 (h3.2.2.2.2 _ hlt).2 hb hd3
  rw [e1, Option.bind_some, eh, Option.bind_some, en1, em1]
  exact ⟨_, _, rfl, rfl, Int32.toInt_inj.mp (en2.1.trans (em2.int (by decide)).1.symm), h0⟩
theorem m_bits {N : Nat → Int} {nh : Nat} (h24 : nh ≤ 24) : ∃ r, f_Mo_bits (setA N nh) = some r ∧ r.toInt = (cntA N nh : Int) := by
  unfold f_Mo_bits
  have loop : ∃ e, lp (fB_Mo_bits_4 (setA N nh)) LF (0, 0) = some e ∧ e.1.toInt = (cntA N nh : Int) := by
    refine lp_inv (N := 24) (I := fun i t => t.2.toInt = (i : Int) ∧ t.1.toInt = (cntA N (if i ≤ nh then i else nh) : Int)) (by decide) ?_ ?_ (i := 0) (by decide) ⟨rfl, by rw [if_pos (by omega)]; rfl⟩
    · rintro i hi ⟨a, j⟩ ih ⟨a1, a2⟩ go
      have a1 : j.toInt = (i : Int) := a1
      have a2 : a.toInt = (cntA N (if i ≤ nh then i else nh) : Int) := a2
      have cl := cntA_le N (if i ≤ nh then i else nh)
      have ej : j = Int32.ofNat i := lit_of a1 (by omega)
      simp only [fB_Mo_bits_4]
      rw [if_neg (lt_lit a1 (N := 24) rfl hi), ej, bit_eq _ hi, setA_bit N nh h24 i hi]
      refine zlet_ex fun z7 h7 => ?_
      have cb : cntA N (if i ≤ nh then i else nh) ≤ 24 := by split at cl <;> split <;> omega
      have ra : rp a (cntA N (if i ≤ nh then i else nh) : Int) 24 := ⟨a2, by omega, by omega⟩
      refine go _ ⟨by rw [← ej]; exact toInt_succ a1 (by omega), ?_⟩
      show z7.toInt = _
      rw [h7]
      by_cases g : i < nh
      · rw [if_pos (show i ≤ nh by omega)] at ra
        rw [if_pos (show i + 1 ≤ nh by omega)]
        have e : cntA N (i + 1) = if anewI N i = true then cntA N i + 1 else cntA N i := rfl
        by_cases b : anewI N i = true
        · rw [if_pos b] at e
          rw [if_pos (by simp [g, b]), (ra.add (rp.lit 1 1 (a := 1) rfl rfl) (by decide)).1, e]; omega
        · rw [if_neg b] at e
          rw [if_neg (by simp [g, b]), (ra.add (rp.lit 0 0 (a := 0) rfl rfl) (by decide)).1, e]; omega
      · rw [if_neg (by simp [g]), (ra.add (rp.lit 0 0 (a := 0) rfl rfl) (by decide)).1]
        rw [if_neg (show ¬ i + 1 ≤ nh by omega)]
        by_cases e : i = nh
        · rw [if_pos (show i ≤ nh by omega), e]; omega
        · rw [if_neg (show ¬ i ≤ nh by omega)]; omega
    · rintro ⟨a, j⟩ ih ⟨a1, a2⟩
      have a1 : j.toInt = ((24 : Nat) : Int) := a1
      have a2 : a.toInt = (cntA N (if 24 ≤ nh then 24 else nh) : Int) := a2
      simp only [fB_Mo_bits_4]
      rw [if_pos (ge_lit a1 (N := 24) rfl (by omega))]
      refine ⟨_, rfl, ?_⟩
      show a.toInt = _
      rw [a2]
      by_cases e : nh = 24
      · rw [if_pos (by omega), e]
      · rw [if_neg (by omega)]
  exact bind_ex' loop (fun q2 h2 => ⟨_, rfl, h2⟩)
theorem p_tended (h : Rel n v m) (p1 p2 p3 : Int32) : ∃ r r', f_AL_tended v p1 p2 p3 = some r ∧ f_Mo_tended m p1 p2 p3 = some r' ∧ (r.1 = r' ∧ Rel (n + 1) (sAL_night v (r.2.1, r.2.2)) m) := by
  have h0 := h.next
  obtain ⟨q, px, ps, s, L, np, T, E, R, nh, H, h1, h2, h3, h4, h5, h6, h7, h8, h9⟩ := h.next
  have t24 := h3.1
  have rel : ∀ w : tNi, Rel (n + 1) (sAL_night v w) m := fun w => ⟨q, px, ps, s, L, np, T, E, R, nh, H, h1, h2, h3, h4, h5, h6, h7, h8, h9⟩
  unfold f_AL_tended f_Mo_tended
  refine bind2 (c_isFast h4.2.1 h4.2.2.2.1 p1).ex (m_isFastO h4.2.2.2.2.2.1 p1).ex (fun a a' ha ha' => ?_)
  refine ite2 ha ha' (fun _ => ⟨_, _, rfl, rfl, rfl, rel _⟩) (fun hA => ?_)
  obtain ⟨l, hl, hk, hf⟩ := hA
  refine ite2 (c_deck p2) (m_deck p2) (fun _ => ⟨_, _, rfl, rfl, rfl, rel _⟩) (fun hD => ?_)
  have hd3 : rp p2 p2.toInt 999 := ⟨rfl, by omega, by omega⟩
  obtain ⟨mt, hN⟩ := m_told (m := m) h4.2.2.2.2.1 h4.1 h1.2.2 h1.1 h4.2.1 h4.2.2.2.2.2.1 hl hk hf t24 h3.2.1 h3.2.2.2.1 (fun k hk => (h3.2.2.2.2 k hk).2) hd3
  obtain ⟨e, e1, e2⟩ := c_lineAlong (w := gAL_ship v) (u := gAL_quay v) h4.2.2.1 h4.1 h1.2.1 h1.1 h4.2.1 h4.2.2.2.1 hl hk hf
  obtain ⟨r7, et, k1, k2⟩ := c_tend (v0 := gAL_night v) (w := gAL_tide v) t24 h3.2.1 h3.2.2.1 (fun k hk => (h3.2.2.2.2 k hk).1) e2 hd3 (N := needI q px s L H l p2.toInt) (fun k => rfl) hN
  rw [e1, Option.bind_some, et, Option.bind_some, mt, Option.bind_some]
  have cl := cntA_le (needI q px s L H l p2.toInt) nh
  generalize needI q px s L H l p2.toInt = N at *
  have hp := rp.any p3
  by_cases d : p3 = -1
  · obtain ⟨rb, eb, hb⟩ := m_bits (N := N) t24
    rw [if_pos d, if_pos d, eb]
    exact ⟨_, _, rfl, rfl, Int32.toInt_inj.mp (k1.trans hb.symm), rel _⟩
  · rw [if_neg d, if_neg d]
    have loop : ∃ e, lp (fB_Mo_tended_46 m p3 (setA N nh)) LF (0, 0) = some e ∧ (match e with | Sum.inl x => ∃ k, k < nh ∧ anewI N k = true ∧ (cntA N k : Int) = p3.toInt ∧ x = Int32.ofNat k | Sum.inr _ => ∀ k, k < nh → anewI N k = true → ¬ (cntA N k : Int) = p3.toInt) := by
      refine lp_inv (N := nh) (I := fun i t => t.2.toInt = (i : Int) ∧ t.1.toInt = (cntA N i : Int) ∧ ∀ k, k < i → anewI N k = true → ¬ (cntA N k : Int) = p3.toInt) (by omega) ?_ ?_ (i := 0) (by omega) ⟨rfl, rfl, fun k g => absurd g (by omega)⟩
      · rintro i hi ⟨a, j⟩ ih ⟨a1, a2, a3⟩ go
        have a1 : j.toInt = (i : Int) := a1
        have a2 : a.toInt = (cntA N i : Int) := a2
        have ci := cntA_le N i
        have ej : j = Int32.ofNat i := lit_of a1 (by omega)
        simp only [fB_Mo_tended_46]
        rw [if_neg (lt_lit a1 h3.2.2.2.1 hi)]
        have eb : (((setA N nh) >>> (j &&& 31)) &&& 1) = if (decide (i < nh) && anewI N i) = true then 1 else 0 := by
          rw [ej, bit_eq _ (by omega), setA_bit N nh t24 i (by omega)]
        rw [eb]
        have e : cntA N (i + 1) = if anewI N i = true then cntA N i + 1 else cntA N i := rfl
        by_cases b : anewI N i = true
        · rw [if_pos (show (if (decide (i < nh) && anewI N i) = true then (1 : Int32) else 0) = 1 by rw [if_pos (by simp [hi, b])])]
          rw [if_pos b] at e
          by_cases c : a = p3
          · rw [if_pos c]
            exact ⟨_, rfl, i, hi, b, by rw [← a2, c], ej⟩
          · rw [if_neg c]
            refine go _ ⟨toInt_succ a1 (by omega), ?_, fun k hk' ak => ?_⟩
            · show (a + 1).toInt = _
              rw [toInt_succ a2 (by omega), e]
            · by_cases ek : k = i
              · subst ek; exact fun g => c (Int32.toInt_inj.mp (a2.trans g))
              · exact a3 k (by omega) ak
        · rw [if_neg (show ¬ (if (decide (i < nh) && anewI N i) = true then (1 : Int32) else 0) = 1 by rw [if_neg (by simp [b])]; decide)]
          rw [if_neg b] at e
          refine go _ ⟨toInt_succ a1 (by omega), ?_, fun k hk' ak => ?_⟩
          · show a.toInt = _
            rw [a2, e]
          · by_cases ek : k = i
            · subst ek; exact absurd ak b
            · exact a3 k (by omega) ak
      · rintro ⟨a, j⟩ ih ⟨a1, a2, a3⟩
        have a1 : j.toInt = (nh : Int) := a1
        simp only [fB_Mo_tended_46]
        rw [if_pos (ge_lit a1 h3.2.2.2.1 (by omega))]
        exact ⟨_, rfl, a3⟩
    obtain ⟨el, e3, k4⟩ := loop
    rw [e3, Option.bind_some]
    unfold f_Ni_hourOf
    rcases el with x | x
    · obtain ⟨k, b1, b2, b3, b4⟩ := k4
      have ck := cntA_mono N (k + 1) (nh - (k + 1))
      rw [show k + 1 + (nh - (k + 1)) = nh by omega] at ck
      have e : cntA N (k + 1) = cntA N k + 1 := by
        show (if anewI N k = true then cntA N k + 1 else cntA N k) = _
        rw [if_pos b2]
      have c1 : ¬ p3 < 0 := fun g => by have := (hp.lt (rp.lit 0 0 (a := 0) rfl rfl)).mp g; omega
      have c2 : ¬ r7.1 0 ≤ p3 := fun g => by
        rw [Int32.le_iff_toInt_le, k1] at g; omega
      have c3 : ¬ (24 : Int32) ≤ p3 := fun g => by have := ((rp.lit 24 24 (a := 24) rfl rfl).le hp).mp g; omega
      rw [if_neg c1, if_neg c2, if_neg c3, if_pos (inb_ok (by omega) (by omega)), ix_eq b3.symm]
      refine ⟨_, _, rfl, rfl, ?_, rel _⟩
      show r7.2 (cntA N k) = x
      rw [b4]; exact k2 k b1 b2
    · by_cases c1 : p3 < 0
      · rw [if_pos c1]; exact ⟨_, _, rfl, rfl, rfl, rel _⟩
      · have c1' : ¬ _ := fun g => c1 ((hp.lt (rp.lit 0 0 (a := 0) rfl rfl)).mpr g)
        have c2 : r7.1 0 ≤ p3 := by
          rw [Int32.le_iff_toInt_le, k1]
          rcases Int.lt_or_le p3.toInt (cntA N nh : Int) with g | g
          · obtain ⟨k, b1, b2, b3⟩ := ex_hour N (n := nh) (j := p3.toInt.toNat) (by omega)
            exact absurd (by omega) (k4 k b1 b3)
          · exact g
        rw [if_neg c1, if_pos c2]; exact ⟨_, _, rfl, rfl, rfl, rel _⟩
/-- the hours at which some line is told -/
noncomputable def wakeI (q px s L H : Nat → Int) (h : Int) (nh : Nat) : Nat → Int32
  | 0 => 0
  | l + 1 => if L (4 * l) = 1 then wakeI q px s L H h nh l ||| setA (needI q px s L H l h) nh else wakeI q px s L H h nh l
theorem p_wakes (h : Rel n v m) (p : Int32) : ∃ r r', f_AL_wakes v p = some r ∧ f_Mo_wakes m p = some r' ∧ (r.1 = r' ∧ Rel (n + 1) (sAL_night v (r.2.1, r.2.2)) m) := by
  have h0 := h.next
  obtain ⟨q, px, ps, s, L, np, T, E, R, nh, H, h1, h2, h3, h4, h5, h6, h7, h8, h9⟩ := h.next
  have t24 := h3.1
  have rel : ∀ w : tNi, Rel (n + 1) (sAL_night v w) m := fun w => ⟨q, px, ps, s, L, np, T, E, R, nh, H, h1, h2, h3, h4, h5, h6, h7, h8, h9⟩
  unfold f_AL_wakes f_Mo_wakes
  refine ite2 (c_deck p) (m_deck p) (fun _ => ⟨_, _, rfl, rfl, rfl, rel _⟩) (fun hD => ?_)
  have hd3 : rp p p.toInt 999 := ⟨rfl, by omega, by omega⟩
  have wk : ∀ l : Nat, wakeI q px s L H p.toInt nh (l + 1) = if L (4 * l) = 1 then wakeI q px s L H p.toInt nh l ||| setA (needI q px s L H l p.toInt) nh else wakeI q px s L H p.toInt nh l := fun l => rfl
  have loop : ∃ e, lp (fB_AL_wakes_14 v p) LF (0, 0, gNi_ints (gAL_night v), gNi_hours (gAL_night v)) = some e ∧ e.1 = wakeI q px s L H p.toInt nh 6 := by
    refine lp_inv (N := 6) (I := fun i t => t.1 = wakeI q px s L H p.toInt nh i ∧ t.2.1.toInt = (i : Int)) (by decide) ?_ ?_ (i := 0) (by decide) ⟨rfl, rfl⟩
    · rintro i hi ⟨a, j, f, g⟩ ih ⟨a1, a2⟩ go
      have a1 : a = wakeI q px s L H p.toInt nh i := a1
      have a2 : j.toInt = (i : Int) := a2
      simp only [fB_AL_wakes_14]
      rw [if_neg (lt_lit a2 (N := 6) rfl hi)]
      rcases c_isFast h4.2.1 h4.2.2.2.1 j with ⟨⟨l, l1, l2, l3⟩, e⟩ | ⟨g0, e⟩
      · have el : l = i := by omega
        subst el
        rw [e, Option.bind_some, if_neg (show ¬ (1 : Int32) = 0 by decide)]
        obtain ⟨mt, hN⟩ := m_told (m := m) h4.2.2.2.2.1 h4.1 h1.2.2 h1.1 h4.2.1 h4.2.2.2.2.2.1 hi a2 l3 t24 h3.2.1 h3.2.2.2.1 (fun k hk => (h3.2.2.2.2 k hk).2) hd3
        obtain ⟨ea, e1, e2⟩ := c_lineAlong (w := gAL_ship v) (u := gAL_quay v) h4.2.2.1 h4.1 h1.2.1 h1.1 h4.2.1 h4.2.2.2.1 hi a2 l3
        obtain ⟨r7, et, k1, k2⟩ := c_tend (v0 := (f, g)) (w := gAL_tide v) t24 h3.2.1 h3.2.2.1 (fun k hk => (h3.2.2.2.2 k hk).1) e2 hd3 (N := needI q px s L H l p.toInt) (fun k => rfl) hN
        refine bind_ex e1 ?_
        refine bind_ex et ?_
        refine bind_ex (c_set (v := (r7.1, r7.2)) t24 k1 k2) ?_
        refine zlet_ex fun z15 h15 => ?_
        refine go _ ⟨?_, toInt_succ a2 (by omega)⟩
        show z15 = _
        rw [wk, if_pos l3, h15, a1]
      · rw [e, Option.bind_some, if_pos rfl]
        refine go _ ⟨?_, toInt_succ a2 (by omega)⟩
        show a = _
        rw [wk, if_neg (fun g => g0 ⟨i, hi, a2, g⟩), a1]
    · rintro ⟨a, j, f, g⟩ ih ⟨a1, a2⟩
      have a2 : j.toInt = ((6 : Nat) : Int) := a2
      simp only [fB_AL_wakes_14]
      rw [if_pos (ge_lit a2 (N := 6) rfl (by omega))]
      exact ⟨_, rfl, a1⟩
  have mloop : ∃ e, lp (fB_Mo_wakes_14 m p) LF (0, 0) = some e ∧ e.1 = wakeI q px s L H p.toInt nh 6 := by
    refine lp_inv (N := 6) (I := fun i t => t.1 = wakeI q px s L H p.toInt nh i ∧ t.2.toInt = (i : Int)) (by decide) ?_ ?_ (i := 0) (by decide) ⟨rfl, rfl⟩
    · rintro i hi ⟨a, j⟩ ih ⟨a1, a2⟩ go
      have a1 : a = wakeI q px s L H p.toInt nh i := a1
      have a2 : j.toInt = (i : Int) := a2
      simp only [fB_Mo_wakes_14]
      rw [if_neg (lt_lit a2 (N := 6) rfl hi), m_isFast h4.2.2.2.2.2.1 hi a2, Option.bind_some]
      by_cases f : L (4 * i) = 1
      · obtain ⟨mt, hN⟩ := m_told (m := m) h4.2.2.2.2.1 h4.1 h1.2.2 h1.1 h4.2.1 h4.2.2.2.2.2.1 hi a2 f t24 h3.2.1 h3.2.2.2.1 (fun k hk => (h3.2.2.2.2 k hk).2) hd3
        rw [if_pos f, if_neg (show ¬ (1 : Int32) = 0 by decide), mt, Option.bind_some, Option.bind_some]
        refine zlet_ex fun z15 h15 => ?_
        refine go _ ⟨?_, toInt_succ a2 (by omega)⟩
        show z15 = _
        rw [wk, if_pos f, h15, a1]
      · rw [if_neg f, if_pos rfl, Option.bind_some]
        refine zlet_ex fun z15 h15 => ?_
        refine go _ ⟨?_, toInt_succ a2 (by omega)⟩
        show z15 = _
        rw [wk, if_neg f, h15, a1]; exact Int32.or_zero
    · rintro ⟨a, j⟩ ih ⟨a1, a2⟩
      have a2 : j.toInt = ((6 : Nat) : Int) := a2
      simp only [fB_Mo_wakes_14]
      rw [if_pos (ge_lit a2 (N := 6) rfl (by omega))]
      exact ⟨_, rfl, a1⟩
  obtain ⟨el, e3, k4⟩ := loop
  obtain ⟨em, e4, j4⟩ := mloop
  rw [e3, e4]
  exact ⟨_, _, rfl, rfl, k4.trans j4.symm, rel _⟩
end
