/-! THE PURE SIDE 34: letting go, the reference -/
section
variable {q px ps s L : Nat → Int} {c : Int} {m : tMo}
theorem m_all (hL : LB q L) (hl : mL (gMo_lines m) L) : ∃ e, lp (fB_Mo_order_4 m) LF (0, 0) = some e ∧ e.1 = Int32.ofNat (allS L 6) := by
  refine lp_inv (N := 6) (I := fun i t => t.2.toInt = (i : Int) ∧ t.1 = Int32.ofNat (allS L i)) (by decide) ?_ ?_ (i := 0) (by decide) ⟨rfl, rfl⟩
  · rintro i hi ⟨a, j⟩ ih ⟨a1, a2⟩ go
    have a1 : j.toInt = (i : Int) := a1
    have a2 : a = Int32.ofNat (allS L i) := a2
    have ej : j = Int32.ofNat i := lit_of a1 (by omega)
    have alls := allS_s L i
    simp only [fB_Mo_order_4]
    rw [if_neg (lt_lit a1 (N := 6) rfl hi), m_isFast hl hi a1, Option.bind_some]
    refine zlet_ex fun w9 h9 => ?_
    refine zlet_ex fun z12 h12 => ?_
    refine go _ ⟨toInt_succ a1 (by omega), ?_⟩
    show z12 = _
    by_cases f : L (4 * i) = 1
    · rw [if_neg (show ¬ (if L (4 * i) = 1 then (1 : Int32) else 0) = 0 by rw [if_pos f]; decide)] at h9
      rw [h12, h9, a2, ej, alls, if_pos f]; exact os_or ⟨_, allS_lt L i (by omega)⟩ ⟨i, hi⟩
    · rw [if_pos (show (if L (4 * i) = 1 then (1 : Int32) else 0) = 0 by rw [if_neg f])] at h9
      rw [h12, h9, a2, alls, if_neg f]; exact Int32.or_zero
  · rintro ⟨a, j⟩ ih ⟨a1, a2⟩
    have a1 : j.toInt = ((6 : Nat) : Int) := a1
    simp only [fB_Mo_order_4]
    rw [if_pos (ge_lit a1 (N := 6) rfl (by omega))]
    exact ⟨_, rfl, a2⟩
theorem m_share (hQ : mQ (gMo_ints m) (gMo_told m) (gMo_postX m) (gMo_postStrong m) q px ps) (hB : QB q px ps) (hS : mS (gMo_ship m) s) (hR : RB c s) (hL : LB q L) (hl : mL (gMo_lines m) L) {l : Nat} (h6 : l < 6) (hf : L (4 * l) = 1) {j : Int32} (hj : j.toInt = (l : Int)) : ∃ r, f_Mo_share m j = some r ∧ rq r (shareI q s L l) 4354 := by
  obtain ⟨i1, j1⟩ := ix4c hj h6 (c := 1) (k := 1) rfl (by decide)
  have lb := hL_of hL h6 hf
  have sb := shareI_b hB hR hL h6 hf
  have mo := m_off (m := m) hS hR.1 (by decide) hQ hB (rp.of 100 (hl (4 * l + 1) (by omega)) (by omega) (by omega))
  unfold f_Mo_share
  rw [if_pos j1, i1]
  have k := (rq.lit 1 1 (a := 1) rfl rfl).add (mo.div (rq.lit 10 10 (a := 10) rfl rfl) (by decide)) (by decide)
  exact ⟨_, rfl, k.tight 4354 (by have := sb.1; unfold shareI at this; omega) (by have := sb.2; unfold shareI at this; omega)⟩
theorem m_strain (hQ : mQ (gMo_ints m) (gMo_told m) (gMo_postX m) (gMo_postStrong m) q px ps) (hB : QB q px ps) (hS : mS (gMo_ship m) s) (hR : RB c s) (hL : LB q L) (hl : mL (gMo_lines m) L) {S : Nat} (h64 : S < 64) (sf : subF L S) : ∃ r, f_Mo_strain m (Int32.ofNat S) = some r ∧ r.toInt = mostI q ps s L S 6 := by
  unfold f_Mo_strain
  have l1 : ∃ e, lp (fB_Mo_strain_5 m (Int32.ofNat S)) LF (0, 0) = some e ∧ e.1.toInt = sumI q s L S 6 := by
    refine lp_inv (N := 6) (I := fun i t => t.2.toInt = (i : Int) ∧ t.1.toInt = sumI q s L S i) (by decide) ?_ ?_ (i := 0) (by decide) ⟨rfl, rfl⟩
    · rintro i hi ⟨a, j⟩ ih ⟨a1, a2⟩ go
      have a1 : j.toInt = (i : Int) := a1
      have a2 : a.toInt = sumI q s L S i := a2
      obtain ⟨s1, s2, -⟩ := sumI_b hB hR hL sf i (by omega)
      have ej : j = Int32.ofNat i := lit_of a1 (by omega)
      have ebit : ((Int32.ofNat S >>> (j &&& 31)) &&& 1) = if inS S i = true then 1 else 0 := by rw [ej]; exact os_bit ⟨S, h64⟩ ⟨i, hi⟩
      have ra : rq a (sumI q s L S i) 26124 := ⟨a2, by omega, by omega⟩
      have su : sumI q s L S (i + 1) = sumI q s L S i + (if inS S i = true then shareI q s L i else 0) := rfl
      simp only [fB_Mo_strain_5]
      rw [if_neg (lt_lit a1 (N := 6) rfl hi), ebit]
      by_cases g : inS S i = true
      · obtain ⟨r, r1, r2⟩ := m_share hQ hB hS hR hL hl hi (sf i hi g) a1
        rw [if_pos (show (if inS S i = true then (1 : Int32) else 0) = 1 by rw [if_pos g]), r1, Option.bind_some, Option.bind_some]
        refine zlet_ex fun z11 h11 => ?_
        refine go _ ⟨toInt_succ a1 (by omega), ?_⟩
        show z11.toInt = _
        rw [h11, (ra.add r2 (by decide)).1, su, if_pos g]
      · rw [if_neg (show ¬ (if inS S i = true then (1 : Int32) else 0) = 1 by rw [if_neg g]; decide), Option.bind_some]
        refine zlet_ex fun z11 h11 => ?_
        refine go _ ⟨toInt_succ a1 (by omega), ?_⟩
        show z11.toInt = _
        rw [h11, (ra.add (rq.lit 0 0 (a := 0) rfl rfl) (by decide)).1, su, if_neg g]
    · rintro ⟨a, j⟩ ih ⟨a1, a2⟩
      have a1 : j.toInt = ((6 : Nat) : Int) := a1
      simp only [fB_Mo_strain_5]
      rw [if_pos (ge_lit a1 (N := 6) rfl (by omega))]
      exact ⟨_, rfl, a2⟩
  refine bind_ex' l1 (fun q2 h2 => ?_)
  have l2 : ∃ e, lp (fB_Mo_strain_47 m (Int32.ofNat S) q2) LF (0, 0) = some e ∧ e.1.toInt = mostI q ps s L S 6 := by
    refine lp_inv (N := 6) (I := fun i t => t.2.toInt = (i : Int) ∧ t.1.toInt = mostI q ps s L S i) (by decide) ?_ ?_ (i := 0) (by decide) ⟨rfl, rfl⟩
    · rintro i hi ⟨a, j⟩ ih ⟨a1, a2⟩ go
      have a1 : j.toInt = (i : Int) := a1
      have a2 : a.toInt = mostI q ps s L S i := a2
      have mb := mostI_b hB hR hL sf i (by omega)
      have ej : j = Int32.ofNat i := lit_of a1 (by omega)
      have ebit : ((Int32.ofNat S >>> (j &&& 31)) &&& 1) = if inS S i = true then 1 else 0 := by rw [ej]; exact os_bit ⟨S, h64⟩ ⟨i, hi⟩
      have mo : mostI q ps s L S (i + 1) = if inS S i = true then maxI (mostI q ps s L S i) (strainI q ps s L S i) else mostI q ps s L S i := rfl
      obtain ⟨i1, j1⟩ := ix4c a1 hi (c := 2) (k := 2) rfl (by decide)
      simp only [fB_Mo_strain_47, i1, if_pos j1]
      rw [if_neg (lt_lit a1 (N := 6) rfl hi), ebit]
      by_cases g : inS S i = true
      · have f := sf i hi g
        obtain ⟨r, r1, r2⟩ := m_share hQ hB hS hR hL hl hi f a1
        obtain ⟨z1, z2, z3, z4⟩ := quotI_b hB hR hL sf hi g
        have lb := hL_of hL hi f
        have pb := (hB.2.2.2.2.2.2.2.2.2.2.2.2.2 (L (4 * i + 2)).toNat (by omega)).2
        have b10 := hB.2.2.2.2.2.2.2.2.2.1
        have b3 := hB.2.2.1
        have b13 := hB.2.2.2.2.2.2.2.2.2.2.2.2.1
        have bb := blowI_b hB
        have sg := strainI_b hB hR hL sf hi g
        have hpo := hl (4 * i + 2) (by omega)
        have hpo2 : (gMo_lines m (4 * i + 2)).toInt = ((L (4 * i + 2)).toNat : Int) := by rw [hpo]; omega
        have rs : rq q2.1 (sumI q s L S 6) 26124 := ⟨h2, by omega, by omega⟩
        have rst := (rp.of 999 (hQ.2.2 (L (4 * i + 2)).toNat (by omega)).2 (by omega) (by omega)).long
        have ra : rq a (mostI q ps s L S i) 9801000 := ⟨a2, by omega, by omega⟩
        have z0 := rq.lit 0 0 (a := (0 : Int64)) rfl rfl
        have c2 : ¬ q2.1 = 0 := fun x => by have := (rs.eqi z0).mp x; omega
        have c4 : ¬ (gMo_postStrong m (L (4 * i + 2)).toNat).toInt64 = 0 := fun x => by have := (rst.eqi z0).mp x; omega
        rw [if_pos (show (if inS S i = true then (1 : Int32) else 0) = 1 by rw [if_pos g]), r1, Option.bind_some, if_neg c2, if_pos (inb_ok (by omega) (by omega)), ix_eq hpo2, if_neg c4]
        refine zlet_ex fun z24 h24 => ?_
        have t10 := (rp.of 99 (hQ.1 10 (by decide)) (by omega) (by omega)).long
        have t3 := (rp.of 99 (hQ.1 3 (by decide)) (by omega) (by omega)).long
        have kb := ((t10.mul t3 (by decide)).mul (rq.lit 10 10 (a := 10) rfl rfl) (by decide))
        have k := ((((kb.mul r2 (by decide)).div rs (by decide)).tight 98010 (by have : blowI q = q 10 * q 3 * 10 := rfl; rw [← this]; omega) z2).mul (rq.lit 100 100 (a := 100) rfl rfl) (by decide)).div rst (by decide)
        rw [← h24] at k
        have k : rq z24 (strainI q ps s L S i) _ := k
        by_cases d : z24 ≤ a
        · have d' := (k.le ra).mp d
          rw [if_pos d]
          refine go _ ⟨toInt_succ a1 (by omega), ?_⟩
          show a.toInt = _
          rw [a2, mo, if_pos g]; unfold maxI; rw [if_neg (by omega)]
        · have d' : ¬ _ := fun x => d ((k.le ra).mpr x)
          rw [if_neg d]
          refine go _ ⟨toInt_succ a1 (by omega), ?_⟩
          show z24.toInt = _
          rw [k.1, mo, if_pos g]; unfold maxI; rw [if_pos (by omega)]
      · rw [if_neg (show ¬ (if inS S i = true then (1 : Int32) else 0) = 1 by rw [if_neg g]; decide)]
        refine go _ ⟨toInt_succ a1 (by omega), ?_⟩
        show a.toInt = _
        rw [a2, mo, if_neg g]
    · rintro ⟨a, j⟩ ih ⟨a1, a2⟩
      have a1 : j.toInt = ((6 : Nat) : Int) := a1
      simp only [fB_Mo_strain_47]
      rw [if_pos (ge_lit a1 (N := 6) rfl (by omega))]
      exact ⟨_, rfl, a2⟩
  exact bind_ex' l2 (fun q13 h13 => ⟨_, rfl, h13⟩)
end
