/-! THE PURE SIDE 56: an at, the reference (2) -/
theorem ix3 {p : Int32} {l : Nat} (hp : p.toInt = (l : Int)) (hl : l < 20) : (3 * p).toInt = ((3 * l : Nat) : Int) ∧ (3 * p + 1).toInt = ((3 * l + 1 : Nat) : Int) ∧ (3 * p + 2).toInt = ((3 * l + 2 : Nat) : Int) ∧ (3 * p - 3).toInt = 3 * (l : Int) - 3 := by
  have r := (rp.lit 3 3 (a := 3) rfl rfl).mul (rp.of 20 hp (by omega) (by omega)) (by decide)
  refine ⟨by rw [r.1]; omega, by rw [(r.add (rp.lit 1 1 (a := 1) rfl rfl) (by decide)).1]; omega, by rw [(r.add (rp.lit 2 2 (a := 2) rfl rfl) (by decide)).1]; omega, by rw [(r.sub (rp.lit 3 3 (a := 3) rfl rfl) (by decide)).1]⟩
section
variable {n : Nat} {T : Nat → Int} {m : tMo}
theorem m_takeAt (hB : TxB n T) (h : mT (gMo_ints m) (gMo_text m) n T) {e pn : Nat} {tak : Bool} (hj : (gMo_ints m 13).toInt = (e : Int)) (he : e ≤ n) (hid : scan (isB T) n e = e) (hm : (gMo_ints m 24).toInt = (pn : Int)) (h20 : pn ≤ 20) (ht : tak = true ↔ (0 < pn ∧ nV T n (scan (isL T) n e) ≤ (gMo_readRow m (3 * (pn - 1))).toInt)) : ∃ r, f_Mo_takeAt m = some r ∧ ((∀ x, x ≠ 12 → x ≠ 13 → x ≠ 15 → x ≠ 16 → x ≠ 17 → x ≠ 24 → r.2.1 x = gMo_ints m x) ∧
    (¬ wn T e (scan (isL T) n e - e) = wc 9 → r.1 = 1 ∧ (r.2.1 12).toInt = (e : Int)) ∧
    (wn T e (scan (isL T) n e - e) = wc 9 → pn = 20 → r.1 = 3 ∧ (r.2.1 12).toInt = (e : Int)) ∧
    (wn T e (scan (isL T) n e - e) = wc 9 → pn < 20 → (∀ y, clR T n (scan (isL T) n e) 9 tak 3 = some y → r.1.toInt = y.1 ∧ (r.2.1 12).toInt = (y.2 : Int)) ∧ (clR T n (scan (isL T) n e) 9 tak 3 = none → r.1 = 0 ∧ r.2.1 12 = gMo_ints m 12 ∧ (r.2.1 13).toInt = ((nA T n (pN T n (scan (isL T) n e) 3) + 1 : Nat) : Int) ∧ (r.2.1 24).toInt = ((pn + 1 : Nat) : Int) ∧ (r.2.2.2 (3 * pn)).toInt = nV T n (pN T n (scan (isL T) n e) 0) ∧ (r.2.2.2 (3 * pn + 1)).toInt = nV T n (pN T n (scan (isL T) n e) 1) - 3 ∧ (r.2.2.2 (3 * pn + 2)).toInt = nV T n (pN T n (scan (isL T) n e) 2) - 3 ∧ ∀ j, j < 3 * pn → r.2.2.2 j = gMo_readRow m j))) := by
  have n300 := hB.1
  unfold f_Mo_takeAt
  refine bind_ex' (m_readWord hB h hj he) (fun r1 h1 => ?_)
  rw [hid] at h1
  obtain ⟨u1, u2, u3, u4⟩ := h1
  obtain ⟨b1, b2, -, -⟩ := scan_spec (isL T) he
  generalize scan (isL T) n e = b at *
  generalize wn T e (b - e) = X at *
  have eq := said_eq (c := 9) (by decide) u4 code_9
  have m24 : r1.1 24 = gMo_ints m 24 := u3 24 (by decide) (by decide)
  have hT1 : (r1.1 11).toInt = (n : Int) := by rw [u3 11 (by decide) (by decide)]; exact h.1
  by_cases c : X = wc 9
  · have c0 : r1.2 = 47 := by rw [eq]; exact c
    rw [if_pos c0]
    by_cases d : pn = 20
    · have d0 : r1.1 24 = 20 := Int32.toInt_inj.mp (by rw [m24, hm, d]; rfl)
      rw [if_pos d0]
      refine ⟨_, rfl, fun x x1 x2 x3 x4 x5 x6 => ?_, fun g => absurd c g, fun _ _ => ⟨rfl, ?_⟩, fun _ g => absurd g (by omega)⟩
      · show upd r1.1 12 (r1.1 13) x = _
        rw [upd_ne _ _ x1]; exact u3 x x2 x3
      · show (upd r1.1 12 (r1.1 13) 12).toInt = _
        rw [upd_eq]; exact u1
    · have d0 : ¬ r1.1 24 = 20 := fun z => d (by have := congrArg Int32.toInt z; rw [m24, hm] at this; have t : (20 : Int32).toInt = 20 := rfl; omega)
      rw [if_neg d0]
      obtain ⟨g, hg⟩ : ∃ g, g = upd r1.1 13 (r1.1 15) := ⟨_, rfl⟩
      rw [← hg]
      have g13 : (g 13).toInt = (b : Int) := by rw [hg, upd_eq]; exact u2
      have g24 : (g 24).toInt = (pn : Int) := by rw [hg, upd_ne _ _ (by decide), m24]; exact hm
      have gT : mT g (gMo_text m) n T := ⟨by rw [hg, upd_ne _ _ (by decide)]; exact hT1, h.2⟩
      have lo := lo_9
      have lo0 : cLo 9 0 (nV T n b) = 0 := (cLo_c (by decide) _ 0).trans lo.1.1
      have lo1 : cLo 9 1 (nV T n b) = 0 := (cLo_c (by decide) _ 0).trans lo.2.1.1
      have lo2 : cLo 9 2 (nV T n b) = 0 := (cLo_c (by decide) _ 0).trans lo.2.2.1
      refine bind_ex' (stg_num (M := (g, gMo_told m, gMo_postX m, gMo_postStrong m, gMo_atRow m, gMo_heights m, gMo_ship m, gMo_lines m, gMo_text m, r1.2, gMo_readTold m, gMo_readX m, gMo_readStrong m, gMo_readRow m, gMo_parting m, gMo_wasShip m, gMo_wasLines m, gMo_worst m, gMo_logRow m, gMo_images m, gMo_isKept m)) (p1 := 0) (p2 := 999) (c := 9) (tak := false) (k := b) (w := (0, g)) (j := 0) hB rfl gT b2 (stg_0 rfl rfl g13) rfl (fun z => (by cases z.2)) (by rw [lo0]; rfl) (by rw [lo.1.2]; rfl)) (fun r5 h5 => ?_)
      have s24 : (r5.2 24).toInt = (pn : Int) := by rw [h5.1 24 (by decide) (by decide) (by decide) (by decide)]; exact g24
      obtain ⟨x0, x1', x2', x3'⟩ := ix3 s24 (by omega)
      have st6 : ∃ w6, (if (r5.1) = 0 then (if ((r5.2) 24) ≤ 0 then (some ((r5.1), (r5.2))) else (if inb ((3 * ((r5.2) 24)) - 3) 60 = true then (if ((gMo_readRow m) (ix ((3 * ((r5.2) 24)) - 3))) < ((r5.2) 16) then (some ((r5.1), (r5.2))) else (zlet ((4 : Int32), upd r5.2 12 (r5.2 17)) (fun (r12 : Int32 × (Nat → Int32)) => (some ((r12.1), (r12.2)))))) else none)) else (some ((r5.1), (r5.2)))) = some w6 ∧ stg T n b 9 tak g 1 w6 := by
        rcases stg_le h5 with ⟨a1, -, a3⟩ | ⟨y, a1, -, a3⟩
        · rw [if_pos a3]
          have v16 := ((h5.2.2 a1).2.2.2 0 rfl).1
          have v16 : (r5.2 16).toInt = nV T n b := v16
          by_cases p0 : pn = 0
          · rw [if_pos (show r5.2 24 ≤ 0 by rw [Int32.le_iff_toInt_le, s24, p0]; decide)]
            exact ⟨_, rfl, stg_tak h5 (fun z => by have := (ht.mp z).1; omega)⟩
          · rw [if_neg (show ¬ r5.2 24 ≤ 0 from fun z => by rw [Int32.le_iff_toInt_le, s24] at z; have z : (pn : Int) ≤ 0 := z; omega)]
            have xi : (3 * r5.2 24 - 3).toInt = ((3 * (pn - 1) : Nat) : Int) := by rw [x3']; omega
            rw [if_pos (inb_ok (by omega) (by omega)), ix_eq xi]
            by_cases lt : gMo_readRow m (3 * (pn - 1)) < r5.2 16
            · rw [if_pos lt]
              rw [Int32.lt_iff_toInt_lt, v16] at lt
              exact ⟨_, rfl, stg_tak h5 (fun z => by have := (ht.mp z).2; omega)⟩
            · rw [if_neg lt]
              rw [Int32.lt_iff_toInt_lt, v16] at lt
              exact ⟨_, rfl, stg_4 h5 a1 (ht.mpr ⟨by omega, by omega⟩)⟩
        · rw [if_neg a3]
          exact ⟨_, rfl, stg_bad h5 a1⟩
      refine bind_ex' st6 (fun w6 h6 => ?_)
      have s6 : (w6.2 24).toInt = (pn : Int) := by rw [h6.1 24 (by decide) (by decide) (by decide) (by decide)]; exact g24
      obtain ⟨y0, y1, y2, -⟩ := ix3 s6 (by omega)
      rw [if_pos (inb_ok (by omega) (by omega)), ix_eq y0]
      refine bind_ex' (stg_next (j := 0) (M := (w6.2, gMo_told m, gMo_postX m, gMo_postStrong m, gMo_atRow m, gMo_heights m, gMo_ship m, gMo_lines m, gMo_text m, r1.2, gMo_readTold m, gMo_readX m, gMo_readStrong m, upd (gMo_readRow m) (3 * pn) (w6.2 16), gMo_parting m, gMo_wasShip m, gMo_wasLines m, gMo_worst m, gMo_logRow m, gMo_images m, gMo_isKept m)) hB rfl gT b2 h6 (p1 := 0) (p2 := 6) (by rw [lo1]; rfl) (by rw [lo.2.1.2]; rfl)) (fun w14 h14 => ?_)
      refine zlet_ex fun z18 h18 => ?_
      have s14 : (w14.2 24).toInt = (pn : Int) := by rw [h14.1 24 (by decide) (by decide) (by decide) (by decide)]; exact g24
      obtain ⟨-, y1, -, -⟩ := ix3 s14 (by omega)
      rw [if_pos (inb_ok (by omega) (by omega)), ix_eq y1]
      refine bind_ex' (stg_next (j := 1) (M := (w14.2, gMo_told m, gMo_postX m, gMo_postStrong m, gMo_atRow m, gMo_heights m, gMo_ship m, gMo_lines m, gMo_text m, r1.2, gMo_readTold m, gMo_readX m, gMo_readStrong m, upd (upd (gMo_readRow m) (3 * pn) (w6.2 16)) (3 * pn + 1) z18, gMo_parting m, gMo_wasShip m, gMo_wasLines m, gMo_worst m, gMo_logRow m, gMo_images m, gMo_isKept m)) hB rfl gT b2 h14 (p1 := 0) (p2 := 6) (by rw [lo2]; rfl) (by rw [lo.2.2.2]; rfl)) (fun w20 h20' => ?_)
      refine zlet_ex fun z24 h24 => ?_
      have s20 : (w20.2 24).toInt = (pn : Int) := by rw [h20'.1 24 (by decide) (by decide) (by decide) (by decide)]; exact g24
      obtain ⟨-, -, y2, -⟩ := ix3 s20 (by omega)
      rw [if_pos (inb_ok (by omega) (by omega)), ix_eq y2]
      refine zlet_ex fun z26 h26 => ?_
      have z26' : z26.toInt = ((pn + 1 : Nat) : Int) := by rw [h26]; exact toInt_succ s20 (by omega)
      have g12 : g 12 = gMo_ints m 12 := by rw [hg, upd_ne _ _ (by decide)]; exact u3 12 (by decide) (by decide)
      have gfr : ∀ x, x ≠ 12 → x ≠ 13 → x ≠ 15 → x ≠ 16 → x ≠ 17 → x ≠ 24 → g x = gMo_ints m x := fun x x1 x2 x3 x4 x5 x6 => by rw [hg, upd_ne _ _ x2]; exact u3 x x2 x3
      rcases stg_le h20' with ⟨a1, a2, -⟩ | ⟨y, a1, a2, -⟩
      · have n2 := (nfT_0 a1).1
        have n1 := (nfT_0 n2).1
        have v0 := ((h6.2.2 n1).2.2.2 0 rfl).1
        have v1 := ((h14.2.2 n2).2.2.2 1 rfl).1
        obtain ⟨-, q2, q3, q4⟩ := h20'.2.2 a1
        have v2 := (q4 2 rfl).1
        have pb := pN_le T b2 3
        rw [if_pos a2]
        refine bind_ex' (m_takeStop (m := (upd w20.2 24 z26, gMo_told m, gMo_postX m, gMo_postStrong m, gMo_atRow m, gMo_heights m, gMo_ship m, gMo_lines m, gMo_text m, r1.2, gMo_readTold m, gMo_readX m, gMo_readStrong m, upd (upd (upd (gMo_readRow m) (3 * pn) (w6.2 16)) (3 * pn + 1) z18) (3 * pn + 2) z24, gMo_parting m, gMo_wasShip m, gMo_wasLines m, gMo_worst m, gMo_logRow m, gMo_images m, gMo_isKept m)) (k := pN T n b 3) hB ⟨by show (upd w20.2 24 z26 11).toInt = _; rw [upd_ne _ _ (by decide), h20'.1 11 (by decide) (by decide) (by decide) (by decide)]; exact gT.1, h.2⟩ (by show (upd w20.2 24 z26 13).toInt = _; rw [upd_ne _ _ (by decide)]; exact q3) pb.2) (fun r28 h28 => ?_)
        obtain ⟨o1, o2⟩ := h28
        have o1 : ∀ x, x ≠ 12 → x ≠ 13 → r28.2 x = upd w20.2 24 z26 x := o1
        have oth : ∀ x, x ≠ 12 → x ≠ 13 → x ≠ 15 → x ≠ 16 → x ≠ 17 → x ≠ 24 → r28.2 x = gMo_ints m x := fun x x1 x2 x3 x4 x5 x6 => by
          rw [o1 x x1 x2, upd_ne _ _ x6, h20'.1 x x1 x2 x4 x5]; exact gfr x x1 x2 x3 x4 x5 x6
        rcases o2 with ⟨s0, s1, s2, s3⟩ | ⟨s0, s1, s2⟩
        · have cl := clR_stop a1 s0
          have b0 := nF_0 (k := pN T n b 0) b2 (nfT_0 n1).2.1
          have b1' := nF_0 (k := pN T n b 1) (pN_le T b2 1).2 (nfT_0 n2).2.1
          have b2' := nF_0 (k := pN T n b 2) (pN_le T b2 2).2 (nfT_0 a1).2.1
          refine ⟨_, rfl, oth, fun g => absurd c g, fun _ g => absurd g d, fun _ _ => ⟨fun y hy => (by rw [cl] at hy; cases hy), fun _ => ⟨s1, ?_, s3, ?_, ?_, ?_, ?_, fun j hj => ?_⟩⟩⟩
          · have s2 : r28.2 12 = upd w20.2 24 z26 12 := s2
            show r28.2 12 = _
            rw [s2, upd_ne _ _ (by decide), q2]; exact g12
          · show (r28.2 24).toInt = _
            rw [o1 24 (by decide) (by decide), upd_eq]; exact z26'
          · show (upd (upd (upd (gMo_readRow m) (3 * pn) (w6.2 16)) (3 * pn + 1) z18) (3 * pn + 2) z24 (3 * pn)).toInt = _
            rw [upd_ne _ _ (by omega), upd_ne _ _ (by omega), upd_eq]; exact v0
          · show (upd (upd (upd (gMo_readRow m) (3 * pn) (w6.2 16)) (3 * pn + 1) z18) (3 * pn + 2) z24 (3 * pn + 1)).toInt = _
            rw [upd_ne _ _ (by omega), upd_eq, h18, ((rp.of 9999 v1 (by omega) (by omega)).sub (rp.lit 3 3 (a := 3) rfl rfl) (by decide)).1]
          · show (upd (upd (upd (gMo_readRow m) (3 * pn) (w6.2 16)) (3 * pn + 1) z18) (3 * pn + 2) z24 (3 * pn + 2)).toInt = _
            rw [upd_eq, h24, ((rp.of 9999 v2 (by omega) (by omega)).sub (rp.lit 3 3 (a := 3) rfl rfl) (by decide)).1]
          · show upd (upd (upd (gMo_readRow m) (3 * pn) (w6.2 16)) (3 * pn + 1) z18) (3 * pn + 2) z24 j = _
            rw [upd_ne _ _ (by omega), upd_ne _ _ (by omega), upd_ne _ _ (by omega)]
        · have cl := clR_no a1 s0
          refine ⟨_, rfl, oth, fun g => absurd c g, fun _ g => absurd g d, fun _ _ => ⟨fun y hy => ?_, fun hy => (by rw [cl] at hy; cases hy)⟩⟩
          rw [cl] at hy; cases hy
          exact ⟨by show r28.1.toInt = _; rw [s1]; rfl, s2⟩
      · have cl := clR_some a1
        rw [if_neg a2]
        obtain ⟨q1, q2⟩ := h20'.2.1 y a1
        refine ⟨_, rfl, fun x x1 x2 x3 x4 x5 x6 => ?_, fun g => absurd c g, fun _ g => absurd g d, fun _ _ => ⟨fun z hz => ?_, fun hy => (by rw [cl] at hy; cases hy)⟩⟩
        · show upd w20.2 24 z26 x = _
          rw [upd_ne _ _ x6, h20'.1 x x1 x2 x4 x5]; exact gfr x x1 x2 x3 x4 x5 x6
        · rw [cl] at hz; cases hz
          exact ⟨q1, by show (upd w20.2 24 z26 12).toInt = _; rw [upd_ne _ _ (by decide)]; exact q2⟩
  · have c0 : ¬ r1.2 = 47 := by rw [eq]; exact c
    rw [if_neg c0]
    refine ⟨_, rfl, fun x x1 x2 x3 x4 x5 x6 => ?_, fun _ => ⟨rfl, ?_⟩, fun g => absurd g c, fun g => absurd g c⟩
    · show upd r1.1 12 (r1.1 13) x = _
      rw [upd_ne _ _ x1]; exact u3 x x2 x3
    · show (upd r1.1 12 (r1.1 13) 12).toInt = _
      rw [upd_eq]; exact u1
end
