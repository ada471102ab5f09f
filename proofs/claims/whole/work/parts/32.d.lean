/-! THE PURE SIDE 20: lines, side by side -/
def tieI (L : Nat → Int) (l : Nat) (x y z : Int) : Nat → Int := fun k => if k = 4 * l then 1 else if k = 4 * l + 1 then x else if k = 4 * l + 2 then y else if k = 4 * l + 3 then z else L k
theorem tieI_0 (L : Nat → Int) (l : Nat) (x y z : Int) : tieI L l x y z (4 * l) = 1 := if_pos rfl
theorem tieI_1 (L : Nat → Int) (l : Nat) (x y z : Int) : tieI L l x y z (4 * l + 1) = x := by unfold tieI; rw [if_neg (by omega), if_pos rfl]
theorem tieI_2 (L : Nat → Int) (l : Nat) (x y z : Int) : tieI L l x y z (4 * l + 2) = y := by unfold tieI; rw [if_neg (by omega), if_neg (by omega), if_pos rfl]
theorem tieI_3 (L : Nat → Int) (l : Nat) (x y z : Int) : tieI L l x y z (4 * l + 3) = z := by unfold tieI; rw [if_neg (by omega), if_neg (by omega), if_neg (by omega), if_pos rfl]
theorem tieI_o (L : Nat → Int) (l : Nat) (x y z : Int) {k : Nat} (h : k / 4 ≠ l) : tieI L l x y z k = L k := by unfold tieI; rw [if_neg (by omega), if_neg (by omega), if_neg (by omega), if_neg (by omega)]
theorem tie_LB {q L : Nat → Int} (hL : LB q L) {l : Nat} {x y z : Int} (h1 : -100 ≤ x ∧ x ≤ 100) (h2 : 0 ≤ y ∧ y < q 13) (h3 : 0 ≤ z ∧ z ≤ 60000) : LB q (tieI L l x y z) := by
  intro k hk
  by_cases e : k = l
  · subst e; rw [tieI_0, tieI_1, tieI_2, tieI_3]; exact Or.inr ⟨rfl, h1, h2, h3⟩
  · rw [tieI_o _ _ _ _ _ (by omega), tieI_o _ _ _ _ _ (by omega), tieI_o _ _ _ _ _ (by omega), tieI_o _ _ _ _ _ (by omega)]; exact hL k hk
theorem tie_cL {f p o n : Nat → Int32} {L : Nat → Int} (hl : cL f p o n L) {l : Nat} {x y z : Int} {a b c d : Int32} (ha : a.toInt = 1) (hb : b.toInt = x) (hc : c.toInt = y) (hd : d.toInt = z) : cL (upd f l a) (upd p l b) (upd o l c) (upd n l d) (tieI L l x y z) := by
  intro k hk
  by_cases e : k = l
  · subst e; rw [tieI_0, tieI_1, tieI_2, tieI_3, upd_eq, upd_eq, upd_eq, upd_eq]; exact ⟨ha, fun _ => ⟨hb, hc, hd⟩⟩
  · rw [tieI_o _ _ _ _ _ (by omega), tieI_o _ _ _ _ _ (by omega), tieI_o _ _ _ _ _ (by omega), tieI_o _ _ _ _ _ (by omega), upd_ne _ _ e, upd_ne _ _ e, upd_ne _ _ e, upd_ne _ _ e]; exact hl k hk
theorem tie_mL {g : Nat → Int32} {L : Nat → Int} (hl : mL g L) {l : Nat} {x y z : Int} {a b c d : Int32} (ha : a.toInt = 1) (hb : b.toInt = x) (hc : c.toInt = y) (hd : d.toInt = z) : mL (upd (upd (upd (upd g (4 * l) a) (4 * l + 1) b) (4 * l + 2) c) (4 * l + 3) d) (tieI L l x y z) := by
  intro k hk
  by_cases e3 : k = 4 * l + 3
  · subst e3; rw [upd_eq, tieI_3]; exact hd
  · rw [upd_ne _ _ e3]
    by_cases e2 : k = 4 * l + 2
    · subst e2; rw [upd_eq, tieI_2]; exact hc
    · rw [upd_ne _ _ e2]
      by_cases e1 : k = 4 * l + 1
      · subst e1; rw [upd_eq, tieI_1]; exact hb
      · rw [upd_ne _ _ e1]
        by_cases e0 : k = 4 * l
        · subst e0; rw [upd_eq, tieI_0]; exact ha
        · rw [upd_ne _ _ e0, tieI_o _ _ _ _ _ (by omega)]; exact hl k hk
theorem c_make {w : tLi} {l : Nat} (hl : l < 6) {p : Int32} (hp : p.toInt = (l : Int)) (a b c : Int32) : f_Li_makeFast w p a b c = some (upd (gLi_fast w) l 1, upd (gLi_place w) l a, upd (gLi_post w) l b, upd (gLi_length w) l c) := by
  have hin : inb p 6 = true := inb_ok (by omega) (by omega)
  unfold f_Li_makeFast
  rw [if_neg (by rw [Int32.lt_iff_toInt_lt, hp]; show ¬ (l : Int) < 0; omega), if_neg (lt_lit hp (N := 6) rfl hl), if_pos hin, if_pos hin, if_pos hin, if_pos hin, ix_eq hp]
  rfl
theorem m_tie {m : tMo} {l : Nat} (hl : l < 6) {p : Int32} (hp : p.toInt = (l : Int)) (a b c : Int32) : f_Mo_tie m p a b c = some (upd (upd (upd (upd (gMo_lines m) (4 * l) 1) (4 * l + 1) a) (4 * l + 2) b) (4 * l + 3) c) := by
  obtain ⟨i0, j0⟩ := ix4 hp hl
  obtain ⟨i1, j1⟩ := ix4c hp hl (c := 1) (k := 1) rfl (by decide)
  obtain ⟨i2, j2⟩ := ix4c hp hl (c := 2) (k := 2) rfl (by decide)
  obtain ⟨i3, j3⟩ := ix4c hp hl (c := 3) (k := 3) rfl (by decide)
  unfold f_Mo_tie
  rw [if_pos j0, if_pos j1, if_pos j2, if_pos j3, i0, i1, i2, i3]
theorem hL_of {q L : Nat → Int} (hL : LB q L) {l : Nat} (hl : l < 6) (hf : L (4 * l) = 1) : (-100 ≤ L (4 * l + 1) ∧ L (4 * l + 1) ≤ 100) ∧ (0 ≤ L (4 * l + 2) ∧ L (4 * l + 2) < q 13) ∧ (0 ≤ L (4 * l + 3) ∧ L (4 * l + 3) ≤ 60000) := by
  rcases hL l hl with h | h
  · omega
  · exact h.2
def oddsI (d : Int) : Int := if 100 - d.tdiv 50 < 0 then 0 else 100 - d.tdiv 50
theorem c_odds {v : tSh} {w : tQu} {q px ps s : Nat → Int} {c : Int} (hS : cS (gSh_ints v) (gSh_harm v) s) (hR : RB c s) (hQ : cQ w q px ps) (hB : QB q px ps) {p k : Int32} {x y : Int} (hp : rp p x 100) (hk : k.toInt = y) (h0 : 0 ≤ y) (h1 : y < q 13) : ∃ e, f_Sh_heaveOdds v w p k = some e ∧ rp e (oddsI (distI q px s x y)) 1300 := by
  unfold f_Sh_heaveOdds
  refine bind_ex' (c_dist hS hR.1 (by decide) (by decide) hQ hB hp hk h0 h1) (fun r1 hr => ⟨_, rfl, ?_⟩)
  have e := (rp.lit 0 0 (a := 0) rfl rfl).max ((rp.lit 100 100 (a := 100) rfl rfl).sub (hr.divk (b := 50) 50 50 rfl rfl (by decide) (by decide)) (by decide))
  exact e.of0 (by unfold oddsI; split <;> split <;> omega)
theorem m_odds {m : tMo} {q px ps s : Nat → Int} {c : Int} (hS : mS (gMo_ship m) s) (hR : RB c s) (hQ : mQ (gMo_ints m) (gMo_told m) (gMo_postX m) (gMo_postStrong m) q px ps) (hB : QB q px ps) {p k : Int32} {x y : Int} (hp : rp p x 100) (hk : k.toInt = y) (h0 : 0 ≤ y) (h1 : y < q 13) : ∃ e, f_Mo_oddsOf m p k = some e ∧ rp e (oddsI (distI q px s x y)) 1300 := by
  unfold f_Mo_oddsOf
  refine bind_ex' (m_dist hS hR.1 (by decide) (by decide) hQ hB hp hk h0 h1) (fun r1 hr => ?_)
  refine zlet_ex fun z2 h2 => ?_
  have e := (rp.lit 100 100 (a := 100) rfl rfl).sub ((hr.divk (b := 50) 50 50 rfl rfl (by decide) (by decide)).int (by decide)) (by decide)
  rw [← h2] at e
  unfold oddsI
  by_cases d : 0 ≤ z2
  · have d' := ((rp.lit 0 0 (a := 0) rfl rfl).le e).mp d
    rw [if_pos d, if_neg (by omega)]; exact ⟨_, rfl, e.wide _ (by decide)⟩
  · have d' : ¬ _ := fun g => d (((rp.lit 0 0 (a := 0) rfl rfl).le e).mpr g)
    rw [if_neg d, if_pos (by omega)]; exact ⟨_, rfl, rp.lit 0 _ rfl rfl⟩
section
variable {n : Nat} {v : tAL} {m : tMo}
theorem Rel.lines {n : Nat} {v : tAL} {m : tMo} {q px ps : Nat → Int} {np : Nat} {T E R : Nat → Int} {nh : Nat} {H : Nat → Int} {w : tSh} {f : Nat → Int64} {g i : Nat → Int32} {s L : Nat → Int}
    (h1 : RelQ q px ps (gAL_quay v) i (gMo_told m) (gMo_postX m) (gMo_postStrong m)) (h2 : RelP np T E R (gAL_plan v) i (gMo_atRow m)) (h3 : RelH nh H (gAL_tide v) i (gMo_heights m)) (h5 : RelT (gAL_text v) i (gMo_text m)) (h6 : RelL (gAL_ints v) (gAL_logged v) i (gMo_logRow m)) (h7 : RelF (gAL_ints v) i) (h8 : RelI (600 * (n : Int)) q (gAL_kept v 0) (gAL_images0 v) (gMo_isKept m 0) (gMo_images m) 0) (h9 : RelI (600 * (n : Int)) q (gAL_kept v 1) (gAL_images1 v) (gMo_isKept m 1) (gMo_images m) 1)
    (h4 : RelS (600 * (n : Int)) q s L w f g i) : Rel n (sAL_ship v w) (sMo_ints (sMo_lines (sMo_ship m f) g) i) := ⟨q, px, ps, s, L, np, T, E, R, nh, H, h1, h2, h3, h4, h5, h6, h7, h8, h9⟩
theorem p_veer (h : Rel n v m) (p1 p2 : Int32) : ∃ r r', f_AL_veer v p1 p2 = some r ∧ f_Mo_veer m p1 p2 = some r' ∧ (r.1 = r'.1 ∧ Rel (n + 1) (sAL_ship v (sSh_lines (gAL_ship v) (sLi_length (gSh_lines (gAL_ship v)) r.2))) (sMo_lines m r'.2)) := by
  have h0 := h.next
  obtain ⟨q, px, ps, s, L, np, T, E, R, nh, H, h1, h2, h3, h4, h5, h6, h7, h8, h9⟩ := h.next
  have hy := rp.any p2
  unfold f_AL_veer f_Mo_veer
  refine bind2 (c_isFast h4.2.1 h4.2.2.2.1 p1).ex (m_isFastO h4.2.2.2.2.2.1 p1).ex (fun a a' ha ha' => ?_)
  refine ite2 ha ha' (fun _ => ⟨_, _, rfl, rfl, rfl, h0⟩) (fun hA => ?_)
  obtain ⟨l, hl, hk, hf⟩ := hA
  have hin : inb p1 6 = true := inb_ok (by omega) (by omega)
  obtain ⟨i3, j3⟩ := ix4c hk hl (c := 3) (k := 3) rfl (by decide)
  have cl := (h4.2.2.2.1 l hl).2 hf
  have ml := h4.2.2.2.2.2.1
  have lb := hL_of h4.2.1 hl hf
  rcases m_inI p2 (rq.lit 0 0 (a := 0) rfl rfl) (rq.lit 9999 9999 (a := 9999) rfl rfl) with ⟨f1, f2⟩ | ⟨f1, f2⟩
  · have c1 : ¬ p2 < 0 := fun g => by have := (hy.lt (rp.lit 0 0 (a := 0) rfl rfl)).mp g; omega
    have c2 : p2 ≤ 9999 := (hy.le (rp.lit 9999 9999 (a := 9999) rfl rfl)).mpr f1.2
    rw [f2, if_neg (show ¬ (1 : Int32) = 0 by decide), if_neg c1, if_pos c2, if_pos hin, if_pos hin, ix_eq hk, if_pos j3, i3]
    simp only [zlet]
    rw [if_pos j3]
    have key : tieI L l (L (4 * l + 1)) (L (4 * l + 2)) p2.toInt (4 * l) = 1 := tieI_0 _ _ _ _ _
    refine ⟨_, _, rfl, rfl, Int32.toInt_inj.mp (cl.2.2.trans (ml _ (by omega)).symm), q, px, ps, s, tieI L l (L (4 * l + 1)) (L (4 * l + 2)) p2.toInt, np, T, E, R, nh, H, h1, h2, h3, ⟨h4.1, tie_LB h4.2.1 lb.1 lb.2.1 ⟨f1.1, by omega⟩, h4.2.2.1, ?_, h4.2.2.2.2.1, ?_, h4.2.2.2.2.2.2⟩, h5, h6, h7, h8, h9⟩
    · intro k hk
      show (gLi_fast (gSh_lines (gAL_ship v)) k).toInt = _ ∧ (_ → (gLi_place (gSh_lines (gAL_ship v)) k).toInt = _ ∧ (gLi_post (gSh_lines (gAL_ship v)) k).toInt = _ ∧ (upd (gLi_length (gSh_lines (gAL_ship v))) l p2 k).toInt = _)
      by_cases e : k = l
      · subst e; rw [tieI_0, tieI_1, tieI_2, tieI_3, upd_eq]; exact ⟨(h4.2.2.2.1 k hl).1.trans hf, fun _ => ⟨cl.1, cl.2.1, rfl⟩⟩
      · rw [tieI_o _ _ _ _ _ (by omega), tieI_o _ _ _ _ _ (by omega), tieI_o _ _ _ _ _ (by omega), tieI_o _ _ _ _ _ (by omega), upd_ne _ _ e]; exact h4.2.2.2.1 k hk
    · intro k hk
      show (upd (gMo_lines m) (4 * l + 3) p2 k).toInt = _
      by_cases e3 : k = 4 * l + 3
      · subst e3; rw [upd_eq, tieI_3]
      · rw [upd_ne _ _ e3, ml k hk]
        by_cases e2 : k = 4 * l + 2
        · subst e2; rw [tieI_2]
        · by_cases e1 : k = 4 * l + 1
          · subst e1; rw [tieI_1]
          · by_cases e0 : k = 4 * l
            · subst e0; rw [tieI_0]; exact hf
            · rw [tieI_o _ _ _ _ _ (by omega)]
  · rw [f2, if_pos rfl]
    by_cases c1 : p2 < 0
    · rw [if_pos c1]; exact ⟨_, _, rfl, rfl, rfl, h0⟩
    · have c1' : ¬ _ := fun g => c1 ((hy.lt (rp.lit 0 0 (a := 0) rfl rfl)).mpr g)
      have c2 : ¬ p2 ≤ 9999 := fun g => by have := (hy.le (rp.lit 9999 9999 (a := 9999) rfl rfl)).mp g; omega
      rw [if_neg c1, if_neg c2]; exact ⟨_, _, rfl, rfl, rfl, h0⟩
theorem p_cast (h : Rel n v m) (p1 : Int32) : ∃ r r', f_AL_cast v p1 = some r ∧ f_Mo_cast m p1 = some r' ∧ (r.1 = r'.1 ∧ Rel (n + 1) (sAL_ship v (sSh_lines (gAL_ship v) (sLi_fast (gSh_lines (gAL_ship v)) r.2))) (sMo_lines m r'.2)) := by
  have h0 := h.next
  obtain ⟨q, px, ps, s, L, np, T, E, R, nh, H, h1, h2, h3, h4, h5, h6, h7, h8, h9⟩ := h.next
  unfold f_AL_cast f_Mo_cast
  refine bind2 (c_isFast h4.2.1 h4.2.2.2.1 p1).ex (m_isFastO h4.2.2.2.2.2.1 p1).ex (fun a a' ha ha' => ?_)
  refine ite2 ha ha' (fun _ => ⟨_, _, rfl, rfl, rfl, h0⟩) (fun hA => ?_)
  obtain ⟨l, hl, hk, hf⟩ := hA
  have hin : inb p1 6 = true := inb_ok (by omega) (by omega)
  obtain ⟨i0, j0⟩ := ix4 hk hl
  obtain ⟨i3, j3⟩ := ix4c hk hl (c := 3) (k := 3) rfl (by decide)
  have cl := (h4.2.2.2.1 l hl).2 hf
  have ml := h4.2.2.2.2.2.1
  rw [if_pos hin, if_pos hin, ix_eq hk, if_pos j0, if_pos j3, i0, i3, upd_ne _ _ (show 4 * l + 3 ≠ 4 * l by omega)]
  refine ⟨_, _, rfl, rfl, Int32.toInt_inj.mp (cl.2.2.trans (ml _ (by omega)).symm), q, px, ps, s, us L (4 * l) 0, np, T, E, R, nh, H, h1, h2, h3, ⟨h4.1, ?_, h4.2.2.1, ?_, h4.2.2.2.2.1, ?_, h4.2.2.2.2.2.2⟩, h5, h6, h7, h8, h9⟩
  · intro k hk
    by_cases e : k = l
    · subst e; exact Or.inl (us_eq _ _ _)
    · rw [us_ne _ _ (by omega), us_ne _ _ (by omega), us_ne _ _ (by omega), us_ne _ _ (by omega)]; exact h4.2.1 k hk
  · intro k hk
    show (upd (gLi_fast (gSh_lines (gAL_ship v))) l (vp_nar .boolean 0) k).toInt = _ ∧ (_ → _)
    by_cases e : k = l
    · subst e; rw [us_eq, upd_eq]; exact ⟨rfl, fun g => absurd g (by decide)⟩
    · rw [us_ne _ _ (by omega), us_ne _ _ (by omega), us_ne _ _ (by omega), us_ne _ _ (by omega), upd_ne _ _ e]; exact h4.2.2.2.1 k hk
  · intro k hk
    show (upd (gMo_lines m) (4 * l) 0 k).toInt = _
    by_cases e : k = 4 * l
    · subst e; rw [upd_eq, us_eq]; rfl
    · rw [upd_ne _ _ e, us_ne _ _ e]; exact ml k hk
theorem p_odds (h : Rel n v m) (p1 p2 : Int32) : ∃ r r', f_AL_odds v p1 p2 = some r ∧ f_Mo_odds m p1 p2 = some r' ∧ (r = r' ∧ Rel (n + 1) v m) := by
  have h0 := h.next
  obtain ⟨q, px, ps, s, L, np, T, E, R, nh, H, h1, h2, h3, h4, h5, h6, h7, h8, h9⟩ := h.next
  unfold f_AL_odds f_Mo_odds
  refine ite2 (c_hasPost h1.2.1 h1.1 p2) (m_isPost h1.2.2 h1.1 p2) (fun _ => ⟨_, _, rfl, rfl, rfl, h0⟩) (fun hA => ?_)
  refine ite2 (c_isPlace p1) (m_isPlace p1) (fun _ => ⟨_, _, rfl, rfl, rfl, h0⟩) (fun hB => ?_)
  obtain ⟨r, e, hr⟩ := c_odds (v := gAL_ship v) (w := gAL_quay v) h4.2.2.1 h4.1 h1.2.1 h1.1 ⟨rfl, hB.1, hB.2⟩ rfl hA.1 hA.2
  obtain ⟨r', e', hr'⟩ := m_odds (m := m) h4.2.2.2.2.1 h4.1 h1.2.2 h1.1 ⟨rfl, hB.1, hB.2⟩ rfl hA.1 hA.2
  rw [e, e']
  exact ⟨_, _, rfl, rfl, Int32.toInt_inj.mp (hr.1.trans hr'.1.symm), h0⟩
end
