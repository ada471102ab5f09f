/-! THE PURE SIDE 45: an hour, the reference -/
/-- the fault of a clause behind its word, none: well -/
def clR (T : Nat → Int) (n k c : Nat) (tak : Bool) (N : Nat) : Option (Int × Nat) := match nfT T n k c tak N with
  | some y => some y
  | none => if nA T n (pN T n k N) < n ∧ T (nA T n (pN T n k N)) = 59 then none else some (1, nA T n (pN T n k N))
theorem clR_some {T : Nat → Int} {n k c : Nat} {tak : Bool} {N : Nat} {y : Int × Nat} (h : nfT T n k c tak N = some y) : clR T n k c tak N = some y := by
  unfold clR; rw [h]
theorem clR_stop {T : Nat → Int} {n k c : Nat} {tak : Bool} {N : Nat} (h : nfT T n k c tak N = none) (hs : semiP T n (pN T n k N)) : clR T n k c tak N = none := by
  unfold clR; rw [h]; exact if_pos hs
theorem clR_no {T : Nat → Int} {n k c : Nat} {tak : Bool} {N : Nat} (h : nfT T n k c tak N = none) (hs : ¬ semiP T n (pN T n k N)) : clR T n k c tak N = some (1, nA T n (pN T n k N)) := by
  unfold clR; rw [h]; exact if_neg hs
theorem lo_10 : cLo 10 0 0 = 0 ∧ hiT 10 0 = 999 := by decide +kernel
theorem cLo_c {c i : Nat} (h : ¬ (c = 0 ∧ i = 1)) (x y : Int) : cLo c i x = cLo c i y := by unfold cLo; rw [if_neg h, if_neg h]
section
variable {n : Nat} {T : Nat → Int} {m : tMo}
theorem m_takeHour (hB : TxB n T) (h : mT (gMo_ints m) (gMo_text m) n T) {e nh : Nat} (hj : (gMo_ints m 13).toInt = (e : Int)) (he : e ≤ n) (hid : scan (isB T) n e = e) (hm : (gMo_ints m 24).toInt = (nh : Int)) (h24 : nh ≤ 24) : ∃ r, f_Mo_takeHour m = some r ∧ ((∀ x, x ≠ 12 → x ≠ 13 → x ≠ 15 → x ≠ 16 → x ≠ 17 → x ≠ 24 → r.2.1 x = gMo_ints m x) ∧
    (¬ wn T e (scan (isL T) n e - e) = wc 10 → r.1 = 1 ∧ (r.2.1 12).toInt = (e : Int)) ∧
    (wn T e (scan (isL T) n e - e) = wc 10 → nh = 24 → r.1 = 3 ∧ (r.2.1 12).toInt = (e : Int)) ∧
    (wn T e (scan (isL T) n e - e) = wc 10 → nh < 24 → (∀ y, clR T n (scan (isL T) n e) 10 false 1 = some y → r.1.toInt = y.1 ∧ (r.2.1 12).toInt = (y.2 : Int)) ∧ (clR T n (scan (isL T) n e) 10 false 1 = none → r.1 = 0 ∧ r.2.1 12 = gMo_ints m 12 ∧ (r.2.1 13).toInt = ((nA T n (pN T n (scan (isL T) n e) 1) + 1 : Nat) : Int) ∧ (r.2.1 24).toInt = ((nh + 1 : Nat) : Int) ∧ (r.2.2.2 nh).toInt = nV T n (scan (isL T) n e) ∧ ∀ j, j < nh → r.2.2.2 j = gMo_readRow m j))) := by
  have n300 := hB.1
  unfold f_Mo_takeHour
  refine bind_ex' (m_readWord hB h hj he) (fun r1 h1 => ?_)
  rw [hid] at h1
  obtain ⟨u1, u2, u3, u4⟩ := h1
  obtain ⟨b1, b2, -, -⟩ := scan_spec (isL T) he
  generalize scan (isL T) n e = b at *
  generalize wn T e (b - e) = X at *
  have eq := said_eq (c := 10) (by decide) u4 code_10
  have m24 : r1.1 24 = gMo_ints m 24 := u3 24 (by decide) (by decide)
  have hT1 : (r1.1 11).toInt = (n : Int) := by rw [u3 11 (by decide) (by decide)]; exact h.1
  by_cases c : X = wc 10
  · have c0 : r1.2 = f_Mo_code 104 111 117 114 := by rw [eq]; exact c
    rw [if_pos c0]
    by_cases d : nh = 24
    · have d0 : r1.1 24 = 24 := Int32.toInt_inj.mp (by rw [m24, hm, d]; rfl)
      rw [if_pos d0]
      refine ⟨_, rfl, fun x x1 x2 x3 x4 x5 x6 => ?_, fun g => absurd c g, fun _ _ => ⟨rfl, ?_⟩, fun _ g => absurd g (by omega)⟩
      · show upd r1.1 12 (r1.1 13) x = _
        rw [upd_ne _ _ x1]; exact u3 x x2 x3
      · show (upd r1.1 12 (r1.1 13) 12).toInt = _
        rw [upd_eq]; exact u1
    · have d0 : ¬ r1.1 24 = 24 := fun z => d (by have := congrArg Int32.toInt z; rw [m24, hm] at this; have t : (24 : Int32).toInt = 24 := rfl; omega)
      rw [if_neg d0]
      have hm13 : ∀ f : Nat → Int32, f = upd r1.1 13 (r1.1 15) → (f 13).toInt = (b : Int) := fun f hf => by rw [hf, upd_eq]; exact u2
      have nb := nA_b T b2
      refine bind_ex' (m_takeNumber (m := (upd r1.1 13 (r1.1 15), gMo_told m, gMo_postX m, gMo_postStrong m, gMo_atRow m, gMo_heights m, gMo_ship m, gMo_lines m, gMo_text m, r1.2, gMo_readTold m, gMo_readX m, gMo_readStrong m, gMo_readRow m, gMo_parting m, gMo_wasShip m, gMo_wasLines m, gMo_worst m, gMo_logRow m, gMo_images m, gMo_isKept m)) (k := b) (lo := 0) (hi := 999) hB ⟨by show (upd r1.1 13 (r1.1 15) 11).toInt = _; rw [upd_ne _ _ (by decide)]; exact hT1, h.2⟩ (hm13 _ rfl) b2 rfl rfl) (fun r5 h5 => ?_)
      obtain ⟨k1, k2, k3, k4⟩ := h5
      have k2 : ∀ x, x ≠ 12 → x ≠ 13 → x ≠ 16 → x ≠ 17 → r5.2 x = upd r1.1 13 (r1.1 15) x := k2
      have k4 : nF T n b 0 999 = 0 → r5.2 12 = upd r1.1 13 (r1.1 15) 12 ∧ (r5.2 13).toInt = (nE T n b : Int) ∧ (r5.2 16).toInt = nV T n b ∧ (r5.2 17).toInt = (nA T n b : Int) := k4
      have s24 : (r5.2 24).toInt = (nh : Int) := by rw [k2 24 (by decide) (by decide) (by decide) (by decide), upd_ne _ _ (by decide), m24]; exact hm
      rw [if_pos (inb_ok (by omega) (by omega)), ix_eq s24]
      refine zlet_ex fun z7 h7 => ?_
      have z24 : z7.toInt = ((nh + 1 : Nat) : Int) := by rw [h7]; exact toInt_succ s24 (by omega)
      have nf1 : nfT T n b 10 false 1 = if nF T n b 0 999 = 0 then none else some (nF T n b 0 999, nA T n b) := by
        have st := nfT_st (T := T) (n := n) (k := b) (c := 10) (tak := false) (N := 0) rfl
        have lo := lo_10
        have e1 : cLo 10 0 (nV T n b) = 0 := (cLo_c (by decide) _ 0).trans lo.1
        have st : nfT T n b 10 false 1 = if nF T n b (cLo 10 0 (nV T n b)) (hiT 10 0) = 0 then (if 0 = 0 ∧ false = true then some (4, nA T n b) else none) else some (nF T n b (cLo 10 0 (nV T n b)) (hiT 10 0), nA T n b) := st
        rw [e1, lo.2, if_neg (show ¬ ((0 : Nat) = 0 ∧ false = true) from fun z => by cases z.2)] at st
        exact st
      by_cases f0 : nF T n b 0 999 = 0
      · obtain ⟨l1, l2, l3, l4⟩ := k4 f0
        rw [if_pos f0] at nf1
        have r50 : r5.1 = 0 := Int32.toInt_inj.mp (by rw [k1, f0]; rfl)
        rw [if_pos (show r5.1 ≤ 0 by rw [r50]; decide)]
        refine bind_ex' (m_takeStop (m := (upd r5.2 24 z7, gMo_told m, gMo_postX m, gMo_postStrong m, gMo_atRow m, gMo_heights m, gMo_ship m, gMo_lines m, gMo_text m, r1.2, gMo_readTold m, gMo_readX m, gMo_readStrong m, upd (gMo_readRow m) nh (r5.2 16), gMo_parting m, gMo_wasShip m, gMo_wasLines m, gMo_worst m, gMo_logRow m, gMo_images m, gMo_isKept m)) (k := nE T n b) hB ⟨by show (upd r5.2 24 z7 11).toInt = _; rw [upd_ne _ _ (by decide), k2 11 (by decide) (by decide) (by decide) (by decide), upd_ne _ _ (by decide)]; exact hT1, h.2⟩ (by show (upd r5.2 24 z7 13).toInt = _; rw [upd_ne _ _ (by decide)]; exact l2) nb.2.2.2) (fun r9 h9 => ?_)
        obtain ⟨o1, o2⟩ := h9
        have o1 : ∀ x, x ≠ 12 → x ≠ 13 → r9.2 x = upd r5.2 24 z7 x := o1
        have oth : ∀ x, x ≠ 12 → x ≠ 13 → x ≠ 15 → x ≠ 16 → x ≠ 17 → x ≠ 24 → r9.2 x = gMo_ints m x := fun x x1 x2 x3 x4 x5 x6 => by
          rw [o1 x x1 x2, upd_ne _ _ x6, k2 x x1 x2 x4 x5, upd_ne _ _ x2]; exact u3 x x2 x3
        rcases o2 with ⟨s0, s1, s2, s3⟩ | ⟨s0, s1, s2⟩
        · have cl := clR_stop nf1 s0
          refine ⟨_, rfl, oth, fun g => absurd c g, fun _ g => absurd g d, fun _ _ => ⟨fun y hy => (by rw [cl] at hy; cases hy), fun _ => ⟨s1, ?_, s3, ?_, ?_, fun j hj => ?_⟩⟩⟩
          · have s2 : r9.2 12 = upd r5.2 24 z7 12 := s2
            show r9.2 12 = _
            rw [s2, upd_ne _ _ (by decide), l1, upd_ne _ _ (by decide)]; exact u3 12 (by decide) (by decide)
          · show (r9.2 24).toInt = _
            rw [o1 24 (by decide) (by decide), upd_eq]; exact z24
          · show (upd (gMo_readRow m) nh (r5.2 16) nh).toInt = _
            rw [upd_eq]; exact l3
          · show upd (gMo_readRow m) nh (r5.2 16) j = _
            exact upd_ne _ _ (by omega)
        · have cl := clR_no nf1 s0
          refine ⟨_, rfl, oth, fun g => absurd c g, fun _ g => absurd g d, fun _ _ => ⟨fun y hy => ?_, fun hy => by rw [cl] at hy; cases hy⟩⟩
          rw [cl] at hy; cases hy
          exact ⟨by show r9.1.toInt = _; rw [s1]; rfl, s2⟩
      · rw [if_neg f0] at nf1
        have cl := clR_some nf1
        have fp : 0 < nF T n b 0 999 := by
          have : nF T n b 0 999 = 0 ∨ nF T n b 0 999 = 1 ∨ nF T n b 0 999 = 2 := by
            unfold nF; split
            · omega
            · split <;> omega
          omega
        rw [if_neg (show ¬ r5.1 ≤ 0 from fun z => by
          rw [Int32.le_iff_toInt_le, k1] at z
          have z : nF T n b 0 999 ≤ 0 := z
          omega)]
        refine ⟨_, rfl, fun x x1 x2 x3 x4 x5 x6 => ?_, fun g => absurd c g, fun _ g => absurd g d, fun _ _ => ⟨fun y hy => ?_, fun hy => by rw [cl] at hy; cases hy⟩⟩
        · show upd r5.2 24 z7 x = _
          rw [upd_ne _ _ x6, k2 x x1 x2 x4 x5, upd_ne _ _ x2]; exact u3 x x2 x3
        · rw [cl] at hy; cases hy
          exact ⟨k1, by show (upd r5.2 24 z7 12).toInt = _; rw [upd_ne _ _ (by decide)]; exact k3 f0⟩
  · have c0 : ¬ r1.2 = f_Mo_code 104 111 117 114 := by rw [eq]; exact c
    rw [if_neg c0]
    refine ⟨_, rfl, fun x x1 x2 x3 x4 x5 x6 => ?_, fun _ => ⟨rfl, ?_⟩, fun g => absurd g c, fun g => absurd g c⟩
    · show upd r1.1 12 (r1.1 13) x = _
      rw [upd_ne _ _ x1]; exact u3 x x2 x3
    · show (upd r1.1 12 (r1.1 13) 12).toInt = _
      rw [upd_eq]; exact u1
end
