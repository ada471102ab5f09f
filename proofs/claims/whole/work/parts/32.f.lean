/-! THE PURE SIDE 22: heave, what is tried, what is sought, side by side -/
theorem and_mask {a : Int64} {x : Int} (h : a.toInt = x) (h0 : 0 ≤ x) : (a &&& 2147483647).toInt = x % 2147483648 := by
  have hb : a.toBitVec.toNat = x.toNat := by
    have e : a.toBitVec.toInt = x := h
    have lt := BitVec.isLt a.toBitVec
    rw [BitVec.toInt_eq_toNat_cond] at e
    split at e <;> omega
  have e : (a &&& 2147483647).toBitVec.toNat = x.toNat % 2147483648 := by
    rw [Int64.toBitVec_and, BitVec.toNat_and, hb]
    exact Nat.and_two_pow_sub_one_eq_mod x.toNat 31
  show (a &&& 2147483647).toBitVec.toInt = _
  rw [BitVec.toInt_eq_toNat_of_lt (by rw [e]; omega), e]
  omega
section
variable {n : Nat} {v : tAL} {m : tMo}
def drawI (d : Int) : Int := (d * 1103515245 + 12345) % 2147483648
theorem drawI_b (d : Int) : 0 ≤ drawI d ∧ drawI d ≤ 2147483647 := by unfold drawI; omega
theorem c_draw {w : tSh} {d : Int} (hd : (gSh_ints w 12).toInt = d) (h0 : 0 ≤ d) : ∃ z : Int32, z.toInt = drawI d ∧ f_Sh_drawOfHundred w = (z / 65536 - z / 65536 / 100 * 100, upd (gSh_ints w) 12 z) := by
  have hl := (gSh_ints w 12).toInt_lt
  have r : rp (gSh_ints w 12) d 2147483647 := ⟨hd, by omega, by omega⟩
  have e := (r.long.mul (rq.lit 1103515245 1103515245 (a := 1103515245) rfl rfl) (by decide)).add (rq.lit 12345 12345 (a := 12345) rfl rfl) (by decide)
  have mk := and_mask e.1 (by omega)
  have b := drawI_b d
  refine ⟨_, ?_, rfl⟩
  exact ((rq.of 2147483647 mk (by omega) (by omega)).int (by decide)).1
theorem m_draw {d : Int} (hd : (gMo_ints m 26).toInt = d) (h0 : 0 ≤ d) : ∃ z : Int32, z.toInt = drawI d ∧ f_Mo_draw m 100 = some (z / 65536 - z / 65536 / 100 * 100, upd (gMo_ints m) 26 z) := by
  have hl := (gMo_ints m 26).toInt_lt
  have r : rp (gMo_ints m 26) d 2147483647 := ⟨hd, by omega, by omega⟩
  have e := (r.long.mul (rq.lit 1103515245 1103515245 (a := 1103515245) rfl rfl) (by decide)).add (rq.lit 12345 12345 (a := 12345) rfl rfl) (by decide)
  have dv := ((e.divk (b := 2147483648) 2147483648 2147483648 rfl rfl (by decide) (by decide)).mul (rq.lit 2147483648 2147483648 (a := 2147483648) rfl rfl) (by decide))
  have k := e.sub dv (by decide)
  have b := drawI_b d
  have ke : d * 1103515245 + 12345 - (d * 1103515245 + 12345).tdiv 2147483648 * 2147483648 = drawI d := by
    rw [Int.tdiv_eq_ediv_of_nonneg (by omega)]
    unfold drawI; omega
  rw [ke] at k
  refine ⟨_, ((k.tight 2147483647 (by omega) (by omega)).int (by decide)).1, ?_⟩
  unfold f_Mo_draw
  generalize (((gMo_ints m 26).toInt64 * 1103515245 + 12345) - ((gMo_ints m 26).toInt64 * 1103515245 + 12345) / 2147483648 * 2147483648).toInt32 = z
  show (if (100 : Int32) = 0 then none else some (z / 65536 - z / 65536 / 100 * 100, upd (gMo_ints m) 26 z)) = _
  rw [if_neg (by decide)]
theorem draw_b {z : Int32} {d : Int} (h : z.toInt = drawI d) : rp (z / 65536 - z / 65536 / 100 * 100) ((drawI d).tdiv 65536 - ((drawI d).tdiv 65536).tdiv 100 * 100) 100000 := by
  have b := drawI_b d
  have r := (rp.of 2147483647 h (by omega) (by omega)).divk (b := 65536) 65536 65536 rfl rfl (by decide) (by decide)
  exact (r.sub ((r.divk (b := 100) 100 100 rfl rfl (by decide) (by decide)).mul (rp.lit 100 100 (a := 100) rfl rfl) (by decide)) (by decide)).wide _ (by decide)
theorem p_heave (h : Rel n v m) (hn : n ≤ 512) (p1 p2 p3 : Int32) : ∃ r r', f_AL_heave v p1 p2 p3 = some r ∧ f_Mo_heave m p1 p2 p3 = some r' ∧ (r.1 = r'.1 ∧ Rel (n + 1) (sAL_ship v (r.2.1, gSh_harm (gAL_ship v), (r.2.2.1, r.2.2.2.1, r.2.2.2.2.1, r.2.2.2.2.2))) (sMo_ints (sMo_lines (sMo_ship m r'.2.2.1) r'.2.2.2) r'.2.1)) := by
  have h0 := h.next
  obtain ⟨q, px, ps, s, L, np, T, E, R, nh, H, h1, h2, h3, h4', h5, h6, h7, h8', h9'⟩ := h
  have h4 := h4'.mono (c' := 600 * ((n + 1 : Nat) : Int)) (by omega)
  have h8 := h8'.mono (c' := 600 * ((n + 1 : Nat) : Int)) (by omega)
  have h9 := h9'.mono (c' := 600 * ((n + 1 : Nat) : Int)) (by omega)
  have no : ∀ x : Int32, ∃ r r', (some (x, gSh_ints (gAL_ship v), gLi_fast (gSh_lines (gAL_ship v)), gLi_place (gSh_lines (gAL_ship v)), gLi_post (gSh_lines (gAL_ship v)), gLi_length (gSh_lines (gAL_ship v))) = some r ∧ some (x, gMo_ints m, gMo_ship m, gMo_lines m) = some r' ∧ (r.1 = r'.1 ∧ Rel (n + 1) (sAL_ship v (r.2.1, gSh_harm (gAL_ship v), (r.2.2.1, r.2.2.2.1, r.2.2.2.2.1, r.2.2.2.2.2))) (sMo_ints (sMo_lines (sMo_ship m r'.2.2.1) r'.2.2.2) r'.2.1))) := fun x => ⟨_, _, rfl, rfl, rfl, h0⟩
  unfold f_AL_heave f_Mo_heave
  refine ite2 (c_isNumber p1) (m_inI p1 (rq.lit 0 0 (a := 0) rfl rfl) (rq.lit 5 5 (a := 5) rfl rfl)) (fun _ => no _) (fun hN => ?_)
  refine ite2 (c_hasPost h1.2.1 h1.1 p3) (m_isPost h1.2.2 h1.1 p3) (fun _ => no _) (fun hA => ?_)
  refine ite2 (c_isPlace p2) (m_isPlace p2) (fun _ => no _) (fun hB => ?_)
  refine bind2 (c_isFast h4.2.1 h4.2.2.2.1 p1).ex (m_isFastO h4.2.2.2.2.2.1 p1).ex (fun a a' ha ha' => ?_)
  rcases ha with ⟨x1, x2⟩ | ⟨x1, x2⟩ <;> rcases ha' with ⟨y1, y2⟩ | ⟨y1, y2⟩
  · rw [x2, y2, if_neg (show ¬ (1 : Int32) = 0 by decide), if_neg (show ¬ (1 : Int32) = 0 by decide)]; exact no _
  · exact absurd x1 y1
  · exact absurd y1 x1
  · rw [x2, y2, if_pos rfl, if_pos rfl]
    have hk : p1.toInt = (p1.toInt.toNat : Int) := by omega
    have h6' : p1.toInt.toNat < 6 := by omega
    have rp2 : rp p2 p2.toInt 100 := ⟨rfl, hB.1, hB.2⟩
    have d0 := h4.2.2.2.2.2.2.2
    obtain ⟨z, hz, ez⟩ := c_draw (w := gAL_ship v) (d := (gMo_ints m 26).toInt) (by rw [h4.2.2.2.2.2.2.1]) d0
    obtain ⟨z', hz', ez'⟩ := m_draw (m := m) rfl d0
    have zz : z' = z := Int32.toInt_inj.mp (hz'.trans hz.symm)
    subst zz
    unfold f_Sh_heaveLine
    rw [ez, ez']
    have db := drawI_b (gMo_ints m 26).toInt
    have dr := draw_b hz
    have cS' : cS (upd (gSh_ints (gAL_ship v)) 12 z') (gSh_harm (gAL_ship v)) s := by
      obtain ⟨c0, c1, c2, c3, c4, c5, c6, c7, c8, c9, c10, c11, c12⟩ := h4.2.2.1
      refine ⟨?_, ?_, ?_, ?_, ?_, ?_, ?_, ?_, ?_, ?_, ?_, ?_, ?_⟩ <;> (try simp (disch := decide) only [upd_ne]) <;> assumption
    generalize hZ : z' / 65536 - z' / 65536 / 100 * 100 = zd at dr
    have hQi : mQ (upd (gMo_ints m) 26 z') (gMo_told m) (gMo_postX m) (gMo_postStrong m) q px ps := ⟨h1.2.2.1, h1.2.2.2.1, h1.2.2.2.2⟩
    obtain ⟨ro, eo, ho⟩ := c_odds (v := (upd (gSh_ints (gAL_ship v)) 12 z', gSh_harm (gAL_ship v), gSh_lines (gAL_ship v))) (w := gAL_quay v) cS' h4.1 h1.2.1 h1.1 rp2 (k := p3) rfl hA.1 hA.2
    obtain ⟨ro', eo', ho'⟩ := m_odds (m := (upd (gMo_ints m) 26 z', gMo_told m, gMo_postX m, gMo_postStrong m, gMo_atRow m, gMo_heights m, gMo_ship m, gMo_lines m, gMo_text m, gMo_said m, gMo_readTold m, gMo_readX m, gMo_readStrong m, gMo_readRow m, gMo_parting m, gMo_wasShip m, gMo_wasLines m, gMo_worst m, gMo_logRow m, gMo_images m, gMo_isKept m)) h4.2.2.2.2.1 h4.1 hQi h1.1 rp2 (k := p3) rfl hA.1 hA.2
    obtain ⟨rd, ed, hd⟩ := c_dist (v := (upd (gSh_ints (gAL_ship v)) 12 z', gSh_harm (gAL_ship v), gSh_lines (gAL_ship v))) (w := gAL_quay v) cS' h4.1.1 (by decide) (by decide) h1.2.1 h1.1 rp2 (k := p3) rfl hA.1 hA.2
    obtain ⟨rm, em, hm⟩ := m_dist (m := (upd (gMo_ints m) 26 z', gMo_told m, gMo_postX m, gMo_postStrong m, gMo_atRow m, gMo_heights m, gMo_ship m, gMo_lines m, gMo_text m, gMo_said m, gMo_readTold m, gMo_readX m, gMo_readStrong m, gMo_readRow m, gMo_parting m, gMo_wasShip m, gMo_wasLines m, gMo_worst m, gMo_logRow m, gMo_images m, gMo_isKept m)) h4.2.2.2.2.1 h4.1.1 (by decide) (by decide) hQi h1.1 rp2 (k := p3) rfl hA.1 hA.2
    have oe : ro' = ro := Int32.toInt_inj.mp (ho'.1.trans ho.1.symm)
    subst oe
    have me : rm.toInt32 = rd := Int32.toInt_inj.mp ((hm.int (by decide)).1.trans hd.1.symm)
    have dn := distI_nonneg q px s p2.toInt p3.toInt
    have ddb := hd.2.2
    simp only [zlet, Option.bind_some]
    rw [eo, eo']
    simp only [Option.bind_some]
    by_cases c : ro' ≤ zd
    · rw [if_pos c, if_pos c]
      simp only [Option.bind_some]
      rw [if_pos trivial]
      have c12 := h4.2.2.1.2.2.2.2.2.2.2.2.2.2.2.2
      have m12 := h4.2.2.2.2.1.2.2.2.2.2.2.2.2.2.2.2.2
      have b12 := h4'.1.1.2.2.2.2.2.2.2.2.2.2.2.2
      have ki := (rp.of 1000000 c12 (by omega) (by omega)).add (rp.lit 1 1 (a := 1) rfl rfl) (by decide)
      have km := (rq.of 1000000 m12 (by omega) (by omega)).add (rq.lit 1 1 (a := 1) rfl rfl) (by decide)
      refine ⟨_, _, rfl, rfl, rfl, Rel.lines (L := L) (s := us s 12 (s 12 + 1)) (h1.ints rfl) (h2.ints rfl) (h3.ints rfl) (h5.ints rfl) (h6.ints rfl rfl) (h7.ints rfl rfl) h8 h9 ⟨?_, h4.2.1, ?_, h4.2.2.2.1, ?_, h4.2.2.2.2.2.1, rfl, ?_⟩⟩
      · have hb := h4'.1
        unfold RB SB at hb ⊢
        simp (disch := decide) only [us_eq, us_ne]
        omega
      · obtain ⟨c0, c1, c2, c3, c4, c5, c6, c7, c8, c9, c10, c11, c12⟩ := h4.2.2.1
        refine ⟨?_, ?_, ?_, ?_, ?_, ?_, ?_, ?_, ?_, ?_, ?_, ?_, ?_⟩ <;> (try simp (disch := decide) only [upd_eq, upd_ne, us_eq, us_ne])
        · exact c0
        · exact c1
        · exact c2
        · exact c3
        · exact c4
        · exact c5
        · exact c6
        · exact c7
        · exact c8
        · exact c9
        · exact c10
        · exact c11
        · exact ki.1
      · obtain ⟨c0, c1, c2, c3, c4, c5, c6, c7, c8, c9, c10, c11, c12⟩ := h4.2.2.2.2.1
        refine ⟨?_, ?_, ?_, ?_, ?_, ?_, ?_, ?_, ?_, ?_, ?_, ?_, ?_⟩ <;> (try simp (disch := decide) only [updL_eq, updL_ne, us_eq, us_ne])
        · exact c0
        · exact c1
        · exact c2
        · exact c3
        · exact c4
        · exact c5
        · exact c6
        · exact c7
        · exact c8
        · exact c9
        · exact c10
        · exact c11
        · exact km.1
      · show 0 ≤ (upd (gMo_ints m) 26 z' 26).toInt
        rw [upd_eq, hz]; omega
    · rw [if_neg c, if_neg c, ed, em]
      simp only [Option.bind_some]
      rw [c_make h6' hk, m_tie h6' hk]
      simp only [Option.bind_some]
      rw [if_neg (show ¬ (1 : Int32) = 0 by decide), me]
      refine ⟨_, _, rfl, rfl, rfl, Rel.lines (s := s) (L := tieI L p1.toInt.toNat p2.toInt p3.toInt (distI q px s p2.toInt p3.toInt)) (h1.ints rfl) (h2.ints rfl) (h3.ints rfl) (h5.ints rfl) (h6.ints rfl rfl) (h7.ints rfl rfl) h8 h9 ⟨h4.1, tie_LB h4.2.1 hB hA ⟨dn, ddb⟩, cS', tie_cL h4.2.2.2.1 rfl rfl rfl hd.1, h4.2.2.2.2.1, tie_mL h4.2.2.2.2.2.1 rfl rfl rfl hd.1, rfl, ?_⟩⟩
      show 0 ≤ (upd (gMo_ints m) 26 z' 26).toInt
      rw [upd_eq, hz]; omega
end
