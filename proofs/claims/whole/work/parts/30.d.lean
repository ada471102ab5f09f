/-! THE PURE SIDE 4: lines, move, knock, gap of the class -/
section
variable {v : tSh} {w : tQu} {q px ps s L : Nat → Int} {X Y c ch ck : Int}
theorem c_line (hS : cS (gSh_ints v) (gSh_harm v) s) (hb : SB X Y c ch ck s) (hX : X ≤ 20000) (hY : Y ≤ 40000) (hQ : cQ w q px ps) (hB : QB q px ps) (hL : LB q L) {l : Nat} (hl : l < 6) {p1 : Int32} (hp : p1.toInt = (l : Int)) (hf : L (4 * l) = 1)
    (hpl : (gLi_place (gSh_lines v) l).toInt = L (4 * l + 1)) (hpo : (gLi_post (gSh_lines v) l).toInt = L (4 * l + 2)) (hle : (gLi_length (gSh_lines v) l).toInt = L (4 * l + 3))
    {x15 x16 x17 : Int} (h15 : rp (gSh_ints v 15) x15 10000000) (h16 : rp (gSh_ints v 16) x16 10000000) (h17 : rp (gSh_ints v 17) x17 10000000) :
    ∃ r, f_Sh_gainByLine v w p1 = some r ∧ ((goneI q px ps s L l = 1 ∧ r.1 = 0 ∧ r.2 = gSh_ints v) ∨ (goneI q px ps s L l = 0 ∧ r.1 = 1 ∧ (∀ k, k < 15 → r.2 k = gSh_ints v k) ∧ (r.2 15).toInt = x15 + ((lpullI q px s L l * wayI q px s (L (4 * l + 1)) (L (4 * l + 2))).tdiv (farI q px s L l) * 10).tdiv (q 3) ∧ (r.2 16).toInt = x16 + (inI q px s L l * 10).tdiv (q 3) ∧ (r.2 17).toInt = x17 + ((inI q px s L l * armI q (L (4 * l + 1))).tdiv (q 3)).tdiv 10)) := by
  have hi : inb p1 6 = true := inb_ok (by omega) (by omega)
  have hix : ix p1 = l := ix_eq hp
  have hLl : (-100 ≤ L (4 * l + 1) ∧ L (4 * l + 1) ≤ 100) ∧ (0 ≤ L (4 * l + 2) ∧ L (4 * l + 2) < q 13) ∧ (0 ≤ L (4 * l + 3) ∧ L (4 * l + 3) ≤ 60000) := by
    rcases hL l hl with h | h
    · omega
    · exact h.2
  have rpl : rp (gLi_place (gSh_lines v) l) (L (4 * l + 1)) 100 := ⟨hpl, by omega, by omega⟩
  have rle : rp (gLi_length (gSh_lines v) l) (L (4 * l + 3)) 60000 := ⟨hle, by omega, by omega⟩
  have ra := hQ.arm hB rpl
  obtain ⟨t4, e4, r4⟩ := hQ.place hB hpo hLl.2.1.1 hLl.2.1.2
  have rx : rp (gSh_ints v 0) (s 0) 20000 := ⟨hS.1, by have := hb.1; omega, by have := hb.1; omega⟩
  have r5 : rp (t4 - (gSh_ints v 0 + f_Qu_arm w (gLi_place (gSh_lines v) l))) (wayI q px s (L (4 * l + 1)) (L (4 * l + 2))) 34499 := r4.sub (rx.add ra (by decide)) (by decide)
  have r6 := c_off hS hb hY hQ hB rpl
  obtain ⟨t7, e7, v7⟩ := f_AL_root_ok (r5.wide _ (by decide)) (r6.wide _ (by decide))
  have r7 : rp t7 (distI q px s (L (4 * l + 1)) (L (4 * l + 2))) 60000 := ⟨v7, by have := distI_nonneg q px s (L (4 * l + 1)) (L (4 * l + 2)); omega, distI_le (by have := r5.2.1; omega) (by have := r5.2.2; omega) (by have := r6.2.2; omega)⟩
  have r9 : rp (f_Sh_pull w t7 (gLi_length (gSh_lines v) l)) (lpullI q px s L l) 1188000 := c_pull hQ hB r7 rle
  obtain ⟨t11, e11, r11⟩ := hQ.strength hB hpo hLl.2.1.1 hLl.2.1.2
  have wt := c_weight hQ hB
  have w0 : ¬ zmax 1 (gQu_ints w 3) = 0 := fun h => by
    have := (wt.eqi (rp.lit 0 0 (a := 0) rfl rfl)).mp h
    have := hB.2.2.1; omega
  have r14 : rp (zmax 1 t7) (farI q px s L l) 60000 := (rp.lit 1 1 (a := 1) rfl rfl).max r7
  have f0 : ¬ zmax 1 t7 = 0 := fun h => by
    have := (r14.eqi (rp.lit 0 0 (a := 0) rfl rfl)).mp h
    have := farI_pos q px s L l; omega
  unfold f_Sh_gainByLine
  simp only [zlet, if_pos hi, hix]
  rw [e4, Option.bind_some, e7, Option.bind_some, e11, Option.bind_some]
  by_cases d : f_Sh_pull w t7 (gLi_length (gSh_lines v) l) ≤ t11
  · rw [if_pos d, if_neg f0, if_neg f0, if_neg w0, if_neg w0, if_neg w0]
    have d' := (r9.le r11).mp d
    have hg : goneI q px ps s L l = 0 := by
      unfold goneI; rw [if_pos hf, if_neg (by omega)]
    have lb := lpullI_b hB hL hl hf hg
    have r9' := r9.tight 999 (by omega) (by omega)
    have ib := inI_b hB hL hl hf hg
    have ob := outI_b hB hL hl hf hg
    have r16' := ((r9'.mul r6 (by decide)).div r14 (by decide)).tight 999 ib.1 ib.2
    have r15' := ((r9'.mul r5 (by decide)).div r14 (by decide)).tight 999 ob.1 ob.2
    have f15 := h15.add ((r15'.mul (rp.lit 10 10 (a := 10) rfl rfl) (by decide)).div wt (by decide)) (by decide)
    have f16 := h16.add ((r16'.mul (rp.lit 10 10 (a := 10) rfl rfl) (by decide)).div wt (by decide)) (by decide)
    have f17 := h17.add (((r16'.mul ra (by decide)).div wt (by decide)).divk (b := 10) 10 10 rfl rfl (by decide) (by decide)) (by decide)
    refine ⟨_, rfl, Or.inr ⟨hg, rfl, fun k hk => ?_, ?_, ?_, ?_⟩⟩
    · show upd _ _ _ k = _
      rw [upd_ne _ _ (by omega), upd_ne _ _ (by omega), upd_ne _ _ (by omega)]
    · show (upd _ _ _ 15).toInt = _
      rw [upd_ne _ _ (by decide), upd_ne _ _ (by decide), upd_eq]; exact f15.1
    · show (upd _ _ _ 16).toInt = _
      rw [upd_ne _ _ (by decide), upd_eq]; exact f16.1
    · show (upd _ _ _ 17).toInt = _
      rw [upd_eq]; exact f17.1
  · rw [if_neg d]
    have d' : ¬ lpullI q px s L l ≤ ps (L (4 * l + 2)).toNat := fun h => d ((r9.le r11).mpr h)
    refine ⟨_, rfl, Or.inl ⟨?_, rfl, rfl⟩⟩
    unfold goneI; rw [if_pos hf, if_pos (by omega)]
/-- the lines, one after the other -/
theorem c_lines (hS : cS (gSh_ints v) (gSh_harm v) s) (hb : SB X Y c ch ck s) (hX : X ≤ 20000) (hY : Y ≤ 40000) (hQ : cQ w q px ps) (hB : QB q px ps) (hL : LB q L) (hc : cL (gLi_fast (gSh_lines v)) (gLi_place (gSh_lines v)) (gLi_post (gSh_lines v)) (gLi_length (gSh_lines v)) L)
    {r : Nat → Int32} (hr : ∀ k, k < 15 → r k = gSh_ints v k) (h15 : (r 15).toInt = (gain0 q s).1) (h16 : (r 16).toInt = (gain0 q s).2.1) (h17 : (r 17).toInt = (gain0 q s).2.2) :
    ∃ e, lp (fB_Sh_passSecond_9 v w) LF (0, 0, r, gLi_fast (gSh_lines v)) = some e ∧ (e.1.toInt = partedI q px ps s L 6 ∧ (∀ k, k < 15 → e.2.2.1 k = gSh_ints v k) ∧ (e.2.2.1 15).toInt = (gainI q px ps s L 6).1 ∧ (e.2.2.1 16).toInt = (gainI q px ps s L 6).2.1 ∧ (e.2.2.1 17).toInt = (gainI q px ps s L 6).2.2 ∧ ∀ l, l < 6 → (e.2.2.2 l).toInt = restI q px ps s L (4 * l)) := by
  have hpb : ∀ l : Nat, 0 ≤ partedI q px ps s L l ∧ partedI q px ps s L l ≤ (l : Int) := by
    intro l
    induction l with
    | zero => exact ⟨Int.le_refl _, Int.le_refl _⟩
    | succ l ih =>
      unfold partedI
      rcases goneI_01 q px ps s L l with h | h <;> rw [h] <;> omega
  refine lp_inv (N := 6) (I := fun i t => t.1.toInt = partedI q px ps s L i ∧ t.2.1.toInt = (i : Int) ∧ (∀ k, k < 15 → t.2.2.1 k = gSh_ints v k) ∧ (t.2.2.1 15).toInt = (gainI q px ps s L i).1 ∧ (t.2.2.1 16).toInt = (gainI q px ps s L i).2.1 ∧ (t.2.2.1 17).toInt = (gainI q px ps s L i).2.2 ∧ ∀ l, l < 6 → (t.2.2.2 l).toInt = if l < i then restI q px ps s L (4 * l) else L (4 * l)) (by decide) ?_ ?_ (i := 0) (by decide) ⟨rfl, rfl, hr, h15, h16, h17, fun l hl => by rw [if_neg (by omega)]; exact (hc l hl).1⟩
  · rintro i hi ⟨n, j, f, g⟩ ih ⟨a1, a2, a3, a4, a5, a6, a7⟩ go
    have a1 : n.toInt = partedI q px ps s L i := a1
    have a2 : j.toInt = (i : Int) := a2
    have a3 : ∀ k, k < 15 → f k = gSh_ints v k := a3
    have a4 : (f 15).toInt = (gainI q px ps s L i).1 := a4
    have a5 : (f 16).toInt = (gainI q px ps s L i).2.1 := a5
    have a6 : (f 17).toInt = (gainI q px ps s L i).2.2 := a6
    have a7 : ∀ l, l < 6 → (g l).toInt = if l < i then restI q px ps s L (4 * l) else L (4 * l) := a7
    have j6 : ¬ (6 : Int32) ≤ j := by rw [Int32.le_iff_toInt_le, a2]; show ¬ (6 : Int) ≤ _; omega
    have hin : inb j 6 = true := inb_ok (by omega) (by omega)
    have hix : ix j = i := ix_eq a2
    have gi : (g i).toInt = L (4 * i) := by rw [a7 i hi, if_neg (by omega)]
    have pb := hpb i
    have nb : rp n (partedI q px ps s L i) 6 := ⟨a1, by omega, by omega⟩
    have gb := gainI_b hB hL hb i (by omega)
    have r4 : rp (f 15) (gainI q px ps s L i).1 10000000 := ⟨a4, by omega, by omega⟩
    have r5 : rp (f 16) (gainI q px ps s L i).2.1 10000000 := ⟨a5, by omega, by omega⟩
    have r6 : rp (f 17) (gainI q px ps s L i).2.2 10000000 := ⟨a6, by omega, by omega⟩
    have js := toInt_succ a2 (by omega)
    have rest : ∀ k, k < 6 → goneI q px ps s L k = 0 → restI q px ps s L (4 * k) = L (4 * k) := by
      intro k hk h0
      unfold restI
      rw [if_neg]
      rintro ⟨-, h1⟩
      rw [Nat.mul_div_cancel_left k (by decide)] at h1
      omega
    simp only [fB_Sh_passSecond_9]
    rw [if_neg j6, if_pos hin, hix]
    rcases hL i hi with hz | ⟨h1, hLi⟩
    · have gz : g i = 0 := Int32.toInt_inj.mp (by rw [gi, hz]; rfl)
      rw [if_pos gz]
      have g0 : goneI q px ps s L i = 0 := by unfold goneI; rw [if_neg (by omega)]
      have ge : gainI q px ps s L (i + 1) = gainI q px ps s L i := by
        rw [show gainI q px ps s L (i + 1) = (if L (4 * i) = 1 ∧ goneI q px ps s L i = 0 then _ else gainI q px ps s L i) from rfl, if_neg (by omega)]
      refine go _ ⟨?_, js, a3, ?_, ?_, ?_, fun l hl => ?_⟩
      · show n.toInt = partedI q px ps s L i + goneI q px ps s L i
        rw [g0, a1]; omega
      · rw [ge]; exact a4
      · rw [ge]; exact a5
      · rw [ge]; exact a6
      · show (g l).toInt = _
        rw [a7 l hl]
        by_cases e : l = i
        · subst e; rw [if_neg (by omega), if_pos (by omega), rest l hl g0]
        · by_cases e2 : l < i
          · rw [if_pos e2, if_pos (by omega)]
          · rw [if_neg e2, if_neg (by omega)]
    · have gz : ¬ g i = 0 := fun h => by
        have : (g i).toInt = 0 := by rw [h]; rfl
        omega
      rw [if_neg gz]
      have hS' : cS f (gSh_harm v) s := by
        obtain ⟨c0, c1, c2, c3, c4, c5, c6, c7, c8, c9, c10, c11, c12⟩ := hS
        refine ⟨?_, ?_, ?_, ?_, ?_, ?_, ?_, ?_, ?_, ?_, c10, ?_, ?_⟩ <;> rw [a3 _ (by decide)] <;> assumption
      have hcl := (hc i hi).2 h1
      obtain ⟨t, et, ht⟩ := c_line (v := (f, gSh_harm v, (g, gLi_place (gSh_lines v), gLi_post (gSh_lines v), gLi_length (gSh_lines v)))) hS' hb hX hY hQ hB hL hi a2 h1 hcl.1 hcl.2.1 hcl.2.2 r4 r5 r6
      rw [et, Option.bind_some]
      rcases ht with ⟨hg, t1, t2⟩ | ⟨hg, t1, t2, t15, t16, t17⟩
      · rw [if_pos t1, if_pos hin]
        have ge : gainI q px ps s L (i + 1) = gainI q px ps s L i := by
          rw [show gainI q px ps s L (i + 1) = (if L (4 * i) = 1 ∧ goneI q px ps s L i = 0 then _ else gainI q px ps s L i) from rfl, if_neg (by omega)]
        refine go _ ⟨?_, js, ?_, ?_, ?_, ?_, fun l hl => ?_⟩
        · show (n + 1).toInt = partedI q px ps s L i + goneI q px ps s L i
          rw [(nb.add (rp.lit 1 1 (a := 1) rfl rfl) (by decide)).1, hg]
        · show ∀ k, k < 15 → t.2 k = _
          rw [t2]; exact a3
        · show (t.2 15).toInt = _
          rw [t2, ge]; exact a4
        · show (t.2 16).toInt = _
          rw [t2, ge]; exact a5
        · show (t.2 17).toInt = _
          rw [t2, ge]; exact a6
        · show (upd g i (vp_nar .boolean 0) l).toInt = _
          by_cases e : l = i
          · subst e
            rw [upd_eq, if_pos (by omega)]
            unfold restI
            rw [if_pos ⟨by omega, by rw [Nat.mul_div_cancel_left l (by decide)]; exact hg⟩]
            rfl
          · rw [upd_ne _ _ e, a7 l hl]
            by_cases e2 : l < i
            · rw [if_pos e2, if_pos (by omega)]
            · rw [if_neg e2, if_neg (by omega)]
      · have t0 : ¬ t.1 = 0 := by rw [t1]; decide
        rw [if_neg t0]
        have ge : gainI q px ps s L (i + 1) = ((gainI q px ps s L i).1 + ((lpullI q px s L i * wayI q px s (L (4 * i + 1)) (L (4 * i + 2))).tdiv (farI q px s L i) * 10).tdiv (q 3), (gainI q px ps s L i).2.1 + (inI q px s L i * 10).tdiv (q 3), (gainI q px ps s L i).2.2 + ((inI q px s L i * armI q (L (4 * i + 1))).tdiv (q 3)).tdiv 10) := by
          rw [show gainI q px ps s L (i + 1) = (if L (4 * i) = 1 ∧ goneI q px ps s L i = 0 then _ else gainI q px ps s L i) from rfl, if_pos ⟨h1, hg⟩]
        refine go _ ⟨?_, js, fun k hk => (t2 k hk).trans (a3 k hk), ?_, ?_, ?_, fun l hl => ?_⟩
        · show n.toInt = partedI q px ps s L i + goneI q px ps s L i
          rw [hg, a1]; omega
        · rw [ge]; exact t15
        · rw [ge]; exact t16
        · rw [ge]; exact t17
        · show (g l).toInt = _
          rw [a7 l hl]
          by_cases e : l = i
          · subst e; rw [if_neg (by omega), if_pos (by omega), rest l hl hg]
          · by_cases e2 : l < i
            · rw [if_pos e2, if_pos (by omega)]
            · rw [if_neg e2, if_neg (by omega)]
  · rintro ⟨n, j, f, g⟩ ih ⟨a1, a2, a3, a4, a5, a6, a7⟩
    have a2 : j.toInt = 6 := a2
    have j6 : (6 : Int32) ≤ j := by rw [Int32.le_iff_toInt_le, a2]; decide
    simp only [fB_Sh_passSecond_9]
    rw [if_pos j6]
    refine ⟨_, rfl, a1, a3, a4, a5, a6, fun l hl => ?_⟩
    have := a7 l hl
    rw [if_pos hl] at this
    exact this
end
