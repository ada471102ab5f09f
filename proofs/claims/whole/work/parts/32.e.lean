/-! THE PURE SIDE 21: line, does, fast, heave, side by side -/
section
variable {n : Nat} {v : tAL} {m : tMo}
theorem p_line (h : Rel n v m) (p1 p2 : Int32) : ∃ r r', f_AL_line v p1 p2 = some r ∧ f_Mo_line m p1 p2 = some r' ∧ (r = r' ∧ Rel (n + 1) v m) := by
  have h0 := h.next
  obtain ⟨q, px, ps, s, L, np, T, E, R, nh, H, h1, h2, h3, h4, h5, h6, h7, h8, h9⟩ := h.next
  unfold f_AL_line f_Mo_line
  refine bind2 (c_isFast h4.2.1 h4.2.2.2.1 p1).ex (m_isFastO h4.2.2.2.2.2.1 p1).ex (fun a a' ha ha' => ?_)
  refine ite2 ha ha' (fun _ => ⟨_, _, rfl, rfl, rfl, h0⟩) (fun hA => ?_)
  obtain ⟨l, hl, hk, hf⟩ := hA
  have hin : inb p1 6 = true := inb_ok (by omega) (by omega)
  have hix := ix_eq hk
  obtain ⟨i1, j1⟩ := ix4c hk hl (c := 1) (k := 1) rfl (by decide)
  obtain ⟨i2, j2⟩ := ix4c hk hl (c := 2) (k := 2) rfl (by decide)
  have cl := (h4.2.2.2.1 l hl).2 hf
  have ml := h4.2.2.2.2.2.1
  have lb := hL_of h4.2.1 hl hf
  have rpl : rp (gLi_place (gSh_lines (gAL_ship v)) l) (L (4 * l + 1)) 100 := ⟨cl.1, by omega, by omega⟩
  have rpm : rp (gMo_lines m (4 * l + 1)) (L (4 * l + 1)) 100 := ⟨ml _ (by omega), by omega, by omega⟩
  have rle : rp (gLi_length (gSh_lines (gAL_ship v)) l) (L (4 * l + 3)) 60000 := ⟨cl.2.2, by omega, by omega⟩
  obtain ⟨rd, ed, hd⟩ := c_dist (v := gAL_ship v) (w := gAL_quay v) h4.2.2.1 h4.1.1 (by decide) (by decide) h1.2.1 h1.1 rpl cl.2.1 lb.2.1.1 lb.2.1.2
  obtain ⟨rm, em, hm⟩ := m_dist (m := m) h4.2.2.2.2.1 h4.1.1 (by decide) (by decide) h1.2.2 h1.1 rpm (ml (4 * l + 2) (by omega)) lb.2.1.1 lb.2.1.2
  have eld : f_Sh_lineDistance (gAL_ship v) (gAL_quay v) p1 = some rd := by
    unfold f_Sh_lineDistance
    rcases c_isFast h4.2.1 h4.2.2.2.1 p1 with ⟨_, e⟩ | ⟨e, _⟩
    · rw [e, Option.bind_some, if_neg (show ¬ (1 : Int32) = 0 by decide), if_pos hin, if_pos hin, hix, ed, Option.bind_some]
    · exact absurd ⟨l, hl, hk, hf⟩ e
  have hm3 := fun (k : Nat) (hk3 : k < 3) (e : p2.toInt = (k : Int)) => (((rp.lit 4 4 (a := 4) rfl rfl).mul (rp.of 6 hk (by omega) (by omega)) (by decide)).add (rp.lit 1 1 (a := 1) rfl rfl) (by decide)).add (rp.of 3 e (by omega) (by omega)) (by decide)
  have e4 : ∀ k : Nat, k < 3 → p2.toInt = (k : Int) → f_Mo_in p2.toInt64 0 2 = 1 ∧ inb (4 * p1 + 1 + p2) 24 = true ∧ ix (4 * p1 + 1 + p2) = 4 * l + 1 + k := by
    intro k hk3 e
    have g := (hm3 k hk3 e).1
    refine ⟨?_, inb_ok (by omega) (by omega), ix_eq (by omega)⟩
    rw [m_in (rp.any p2).long (rq.lit 0 0 (a := 0) rfl rfl) (rq.lit 2 2 (a := 2) rfl rfl), if_pos (by omega)]
  by_cases d0 : p2 = 0
  · obtain ⟨g1, g2, g3⟩ := e4 0 (by decide) (by rw [d0]; rfl)
    rw [if_pos d0, if_pos hin, hix, g1, if_neg (show ¬ (1 : Int32) = 0 by decide), if_pos g2, g3]
    exact ⟨_, _, rfl, rfl, Int32.toInt_inj.mp (cl.1.trans (ml _ (by omega)).symm), h0⟩
  · rw [if_neg d0]
    by_cases d1 : p2 = 1
    · obtain ⟨g1, g2, g3⟩ := e4 1 (by decide) (by rw [d1]; rfl)
      rw [if_pos d1, if_pos hin, hix, g1, if_neg (show ¬ (1 : Int32) = 0 by decide), if_pos g2, g3]
      exact ⟨_, _, rfl, rfl, Int32.toInt_inj.mp (cl.2.1.trans (ml _ (by omega)).symm), h0⟩
    · rw [if_neg d1]
      by_cases d2 : p2 = 2
      · obtain ⟨g1, g2, g3⟩ := e4 2 (by decide) (by rw [d2]; rfl)
        rw [if_pos d2, if_pos hin, hix, g1, if_neg (show ¬ (1 : Int32) = 0 by decide), if_pos g2, g3]
        exact ⟨_, _, rfl, rfl, Int32.toInt_inj.mp (cl.2.2.trans (ml _ (by omega)).symm), h0⟩
      · rw [if_neg d2]
        have gn : f_Mo_in p2.toInt64 0 2 = 0 := by
          rcases m_inI p2 (rq.lit 0 0 (a := 0) rfl rfl) (rq.lit 2 2 (a := 2) rfl rfl) with ⟨f1, f2⟩ | ⟨f1, f2⟩
          · exfalso
            have hk2 : p2.toInt = (p2.toInt.toNat : Int) := by omega
            have e := lit_of hk2 (by omega)
            have c : p2.toInt.toNat = 0 ∨ p2.toInt.toNat = 1 ∨ p2.toInt.toNat = 2 := by omega
            rcases c with g | g | g <;> rw [g] at e
            · exact d0 e
            · exact d1 e
            · exact d2 e
          · exact f2
        rw [gn, if_pos rfl]
        by_cases d3 : p2 = 3
        · rw [if_pos d3, if_pos d3, eld, if_pos j1, if_pos j2, i1, i2, em]
          exact ⟨_, _, rfl, rfl, Int32.toInt_inj.mp (hd.1.trans (hm.int (by decide)).1.symm), h0⟩
        · rw [if_neg d3, if_neg d3]
          by_cases d4 : p2 = 4
          · obtain ⟨rq', eq', hq'⟩ := m_pull (m := m) h4.2.2.2.2.1 h4.1.1 (by decide) (by decide) h1.2.2 h1.1 h4.2.1 ml hl hk hf
            rw [if_pos d4, if_pos d4, eld, eq', Option.bind_some, Option.bind_some, if_pos hin, hix]
            exact ⟨_, _, rfl, rfl, Int32.toInt_inj.mp ((c_pull h1.2.1 h1.1 hd rle).1.trans (hq'.int (by decide)).1.symm), h0⟩
          · rw [if_neg d4, if_neg d4]; exact ⟨_, _, rfl, rfl, rfl, h0⟩
theorem p_does (h : Rel n v m) (p1 p2 : Int32) : ∃ r r', f_AL_does v p1 p2 = some r ∧ f_Mo_does m p1 p2 = some r' ∧ (r = r' ∧ Rel (n + 1) v m) := by
  have h0 := h.next
  obtain ⟨q, px, ps, s, L, np, T, E, R, nh, H, h1, h2, h3, h4, h5, h6, h7, h8, h9⟩ := h.next
  have b13 := h1.1.2.2.2.2.2.2.2.2.2.2.2.2.1
  unfold f_AL_does f_Mo_does
  refine ite2 (c_hasPost h1.2.1 h1.1 p2) (m_isPost h1.2.2 h1.1 p2) (fun _ => ⟨_, _, rfl, rfl, rfl, h0⟩) (fun hA => ?_)
  refine ite2 (c_isPlace p1) (m_isPlace p1) (fun _ => ⟨_, _, rfl, rfl, rfl, h0⟩) (fun hB => ?_)
  have rp1 : rp p1 p1.toInt 100 := ⟨rfl, hB.1, hB.2⟩
  obtain ⟨r1, e1, k1⟩ := c_way (v := gAL_ship v) (w := gAL_quay v) h4.2.2.1 h4.1.1 (by decide) h1.2.1 h1.1 rp1 (k := p2) rfl hA.1 hA.2
  have ko := c_off (v := gAL_ship v) (w := gAL_quay v) h4.2.2.1 h4.1.1 (by decide) h1.2.1 h1.1 rp1
  have mw := m_way (m := m) h4.2.2.2.2.1 h4.1.1 (by decide) h1.2.2 h1.1 rp1 (k := p2) rfl hA.1 hA.2
  have mo := m_off (m := m) h4.2.2.2.2.1 h4.1.1 (by decide) h1.2.2 h1.1 rp1
  rw [if_pos (inb_ok (by omega) (by omega))]
  unfold f_Sh_effectOf
  rw [e1, Option.bind_some]
  generalize (gMo_postX m (ix p2)).toInt64 - f_Mo_along m p1 = z6 at mw
  generalize f_Mo_offOf m p1 = z7 at mo
  generalize f_Sh_wayOff (gAL_ship v) (f_Qu_arm (gAL_quay v) p1) = y7 at ko
  generalize wayI q px s p1.toInt p2.toInt = W at k1 mw
  generalize offI q s p1.toInt = O at ko mo
  simp only [zlet]
  have z0 := rp.lit 0 0 (a := (0 : Int32)) rfl rfl
  have Z0 := rq.lit 0 0 (a := (0 : Int64)) rfl rfl
  have w1 : (if r1 ≤ 0 then (if 0 ≤ r1 then (0 : Int32) else 2) else 1) = (if W ≤ 0 then (if 0 ≤ W then 0 else 2) else 1) := by
    by_cases d : W ≤ 0
    · rw [if_pos d, if_pos ((k1.le z0).mpr d)]
      by_cases d2 : 0 ≤ W
      · rw [if_pos d2, if_pos ((z0.le k1).mpr d2)]
      · rw [if_neg d2, if_neg (fun g => d2 ((z0.le k1).mp g))]
    · rw [if_neg d, if_neg (fun g => d ((k1.le z0).mp g))]
  have w2 : (if z6 ≤ 0 then (if 0 ≤ z6 then (0 : Int32) else 2) else 1) = (if W ≤ 0 then (if 0 ≤ W then 0 else 2) else 1) := by
    by_cases d : W ≤ 0
    · rw [if_pos d, if_pos ((mw.le Z0).mpr d)]
      by_cases d2 : 0 ≤ W
      · rw [if_pos d2, if_pos ((Z0.le mw).mpr d2)]
      · rw [if_neg d2, if_neg (fun g => d2 ((Z0.le mw).mp g))]
    · rw [if_neg d, if_neg (fun g => d ((mw.le Z0).mp g))]
  rw [w1, w2]
  have wv : ∀ x : Int32, (x = 0 ∨ x = 1 ∨ x = 2) → ((x ||| 0) ||| 0) ||| 0 = x ∧ ((x ||| 4) ||| 0) ||| 0 = (x ||| 4) ||| 0 ∧ ((x ||| 4) ||| 0) ||| 16 = (x ||| 4) ||| 16 ∧ ((x ||| 4) ||| 8) ||| 0 = (x ||| 4) ||| 8 := by
    rintro x (rfl | rfl | rfl) <;> decide
  have wx : ∀ x : Int32, x = (if W ≤ 0 then (if 0 ≤ W then (0 : Int32) else 2) else 1) → (x = 0 ∨ x = 1 ∨ x = 2) := by
    intro x e
    rw [e]; split
    · split
      · exact Or.inl rfl
      · exact Or.inr (Or.inr rfl)
    · exact Or.inr (Or.inl rfl)
  generalize hx : (if W ≤ 0 then (if 0 ≤ W then (0 : Int32) else 2) else 1) = x
  have wv := wv x (wx x hx.symm)
  by_cases d : O ≤ 0
  · rw [if_pos ((ko.le z0).mpr d), if_pos ((mo.le Z0).mpr d)]
    simp only [if_true, reduceIte]
    exact ⟨_, _, rfl, rfl, wv.1.symm, h0⟩
  · rw [if_neg (fun g => d ((ko.le z0).mp g)), if_neg (fun g => d ((mo.le Z0).mp g))]
    have one : ¬ (1 : Int32) = 0 := by decide
    simp only [if_neg one]
    by_cases d1 : p1 ≤ 0
    · rw [if_pos d1, if_pos d1]
      by_cases d2 : 0 ≤ p1
      · rw [if_pos d2, if_pos d2]; exact ⟨_, _, rfl, rfl, wv.2.1.symm, h0⟩
      · rw [if_neg d2, if_neg d2]; exact ⟨_, _, rfl, rfl, wv.2.2.1.symm, h0⟩
    · rw [if_neg d1, if_neg d1]
      have d2 : 0 ≤ p1 := by
        rw [Int32.le_iff_toInt_le] at d1 ⊢
        have d1 : ¬ p1.toInt ≤ 0 := d1
        show 0 ≤ p1.toInt
        omega
      rw [if_pos d2]; exact ⟨_, _, rfl, rfl, wv.2.2.2.symm, h0⟩
theorem p_fast (h : Rel n v m) (p1 p2 p3 p4 : Int32) : ∃ r r', f_AL_fast v p1 p2 p3 p4 = some r ∧ f_Mo_fast m p1 p2 p3 p4 = some r' ∧ (r.1 = r'.1 ∧ Rel (n + 1) (sAL_ship v (sSh_lines (gAL_ship v) (r.2.1, r.2.2.1, r.2.2.2.1, r.2.2.2.2))) (sMo_lines m r'.2)) := by
  have h0 := h.next
  obtain ⟨q, px, ps, s, L, np, T, E, R, nh, H, h1, h2, h3, h4, h5, h6, h7, h8, h9⟩ := h.next
  have no : ∀ x : Int32, ∃ r r', (some (x, gLi_fast (gSh_lines (gAL_ship v)), gLi_place (gSh_lines (gAL_ship v)), gLi_post (gSh_lines (gAL_ship v)), gLi_length (gSh_lines (gAL_ship v))) = some r ∧ some (x, gMo_lines m) = some r' ∧ (r.1 = r'.1 ∧ Rel (n + 1) (sAL_ship v (sSh_lines (gAL_ship v) (r.2.1, r.2.2.1, r.2.2.2.1, r.2.2.2.2))) (sMo_lines m r'.2))) := fun x => ⟨_, _, rfl, rfl, rfl, h0⟩
  unfold f_AL_fast f_Mo_fast
  refine ite2 (c_isNumber p1) (m_inI p1 (rq.lit 0 0 (a := 0) rfl rfl) (rq.lit 5 5 (a := 5) rfl rfl)) (fun _ => no _) (fun hN => ?_)
  refine ite2 (c_hasPost h1.2.1 h1.1 p3) (m_isPost h1.2.2 h1.1 p3) (fun _ => no _) (fun hA => ?_)
  refine ite2 (c_isPlace p2) (m_isPlace p2) (fun _ => no _) (fun hB => ?_)
  have hy := rp.any p4
  have hk : p1.toInt = (p1.toInt.toNat : Int) := by omega
  have h6' : p1.toInt.toNat < 6 := by omega
  have rp2 : rp p2 p2.toInt 100 := ⟨rfl, hB.1, hB.2⟩
  obtain ⟨rd, ed, hd⟩ := c_dist (v := gAL_ship v) (w := gAL_quay v) h4.2.2.1 h4.1.1 (by decide) (by decide) h1.2.1 h1.1 rp2 (k := p3) rfl hA.1 hA.2
  obtain ⟨rm, em, hm⟩ := m_dist (m := m) h4.2.2.2.2.1 h4.1.1 (by decide) (by decide) h1.2.2 h1.1 rp2 (k := p3) rfl hA.1 hA.2
  have dn := distI_nonneg q px s p2.toInt p3.toInt
  have db := hd.2.2
  have fin : ∀ (a b : Int32) (z : Int), a.toInt = z → b.toInt = z → 0 ≤ z → z ≤ 60000 → ∃ r r', (Option.bind (f_Li_makeFast (gSh_lines (gAL_ship v)) p1 p2 p3 a) (fun (r16 : (Nat → Int32) × (Nat → Int32) × (Nat → Int32) × (Nat → Int32)) => some (a, r16.1, r16.2.1, r16.2.2.1, r16.2.2.2)) = some r ∧ Option.bind (f_Mo_tie m p1 p2 p3 b) (fun (r15 : Nat → Int32) => some (b, r15)) = some r' ∧ (r.1 = r'.1 ∧ Rel (n + 1) (sAL_ship v (sSh_lines (gAL_ship v) (r.2.1, r.2.2.1, r.2.2.2.1, r.2.2.2.2))) (sMo_lines m r'.2))) := by
    intro a b z ha hb z0 z1
    rw [c_make h6' hk, m_tie h6' hk]
    exact ⟨_, _, rfl, rfl, Int32.toInt_inj.mp (ha.trans hb.symm), q, px, ps, s, tieI L p1.toInt.toNat p2.toInt p3.toInt z, np, T, E, R, nh, H, h1, h2, h3, ⟨h4.1, tie_LB h4.2.1 hB hA ⟨z0, z1⟩, h4.2.2.1, tie_cL h4.2.2.2.1 rfl rfl rfl ha, h4.2.2.2.2.1, tie_mL h4.2.2.2.2.2.1 rfl rfl rfl hb, h4.2.2.2.2.2.2⟩, h5, h6, h7, h8, h9⟩
  by_cases c1 : p4 < -1
  · have c1' := (hy.lt (rp.lit (-1) 1 (a := -1) rfl rfl)).mp c1
    have c2 : ¬ p4 = -1 := fun g => by have := (hy.eqi (rp.lit (-1) 1 (a := -1) rfl rfl)).mp g; omega
    rw [if_pos c1, if_neg c2]
    rcases m_inI p4 (rq.lit 0 0 (a := 0) rfl rfl) (rq.lit 9999 9999 (a := 9999) rfl rfl) with ⟨f1, f2⟩ | ⟨f1, f2⟩
    · omega
    · rw [f2, if_pos rfl]; exact no _
  · have c1' : ¬ _ := fun g => c1 ((hy.lt (rp.lit (-1) 1 (a := -1) rfl rfl)).mpr g)
    rw [if_neg c1]
    by_cases c2 : p4 = -1
    · have c2' := (hy.eqi (rp.lit (-1) 1 (a := -1) rfl rfl)).mp c2
      rw [if_pos ((hy.le (rp.lit 9999 9999 (a := 9999) rfl rfl)).mpr (by omega))]
      simp only [if_pos c2]
      refine bind2 (c_isFast h4.2.1 h4.2.2.2.1 p1).ex (m_isFastO h4.2.2.2.2.2.1 p1).ex (fun a a' ha ha' => ?_)
      rcases ha with ⟨x1, x2⟩ | ⟨x1, x2⟩ <;> rcases ha' with ⟨y1, y2⟩ | ⟨y1, y2⟩
      · rw [x2, y2, if_neg (show ¬ (1 : Int32) = 0 by decide), if_neg (show ¬ (1 : Int32) = 0 by decide)]; exact no _
      · exact absurd x1 y1
      · exact absurd y1 x1
      · rw [x2, y2, if_pos rfl, if_pos rfl, ed, em]
        exact fin rd rm.toInt32 _ hd.1 (hm.int (by decide)).1 dn db
    · have c2' : ¬ _ := fun g => c2 ((hy.eqi (rp.lit (-1) 1 (a := -1) rfl rfl)).mpr g)
      simp only [if_neg c2]
      rcases m_inI p4 (rq.lit 0 0 (a := 0) rfl rfl) (rq.lit 9999 9999 (a := 9999) rfl rfl) with ⟨f1, f2⟩ | ⟨f1, f2⟩
      · rw [f2, if_neg (show ¬ (1 : Int32) = 0 by decide), if_pos ((hy.le (rp.lit 9999 9999 (a := 9999) rfl rfl)).mpr f1.2)]
        refine bind2 (c_isFast h4.2.1 h4.2.2.2.1 p1).ex (m_isFastO h4.2.2.2.2.2.1 p1).ex (fun a a' ha ha' => ?_)
        rcases ha with ⟨x1, x2⟩ | ⟨x1, x2⟩ <;> rcases ha' with ⟨y1, y2⟩ | ⟨y1, y2⟩
        · rw [x2, y2, if_neg (show ¬ (1 : Int32) = 0 by decide), if_neg (show ¬ (1 : Int32) = 0 by decide)]; exact no _
        · exact absurd x1 y1
        · exact absurd y1 x1
        · rw [x2, y2, if_pos rfl, if_pos rfl]
          exact fin p4 p4 _ rfl rfl f1.1 (by omega)
      · rw [f2, if_pos rfl, if_neg (fun g => by have := (hy.le (rp.lit 9999 9999 (a := 9999) rfl rfl)).mp g; omega)]
        exact no _
end
