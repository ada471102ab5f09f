/-! THE PURE SIDE 27: nights, class and reference -/
theorem ex_hour (N : Nat → Int) {n j : Nat} (h : j < cntA N n) : ∃ k, k < n ∧ cntA N k = j ∧ anewI N k = true := by
  induction n with
  | zero => exact absurd h (Nat.not_lt_zero _)
  | succ n ih =>
    unfold cntA at h
    by_cases a : anewI N n = true
    · rw [if_pos a] at h
      by_cases e : j = cntA N n
      · exact ⟨n, by omega, e.symm, a⟩
      · obtain ⟨k, k1, k2⟩ := ih (by omega)
        exact ⟨k, by omega, k2⟩
    · rw [if_neg a] at h
      obtain ⟨k, k1, k2⟩ := ih h
      exact ⟨k, by omega, k2⟩
def nightB (N : Nat → Int) (n : Nat) : Prop := n ≤ 24 ∧ ∀ k, k < n → 0 ≤ N k ∧ N k ≤ 60000
theorem spanI_b {N : Nat → Int} {n : Nat} (hN : nightB N n) (k : Nat) (hk : k ≤ n) : (0 ≤ (spanI N k).1 ∧ (spanI N k).1 ≤ 60000) ∧ (0 ≤ (spanI N k).2 ∧ (spanI N k).2 ≤ 60000) := by
  induction k with
  | zero => exact ⟨⟨Int.le_refl _, (by decide : (0 : Int) ≤ 60000)⟩, ⟨Int.le_refl _, (by decide : (0 : Int) ≤ 60000)⟩⟩
  | succ k ih =>
    have ih := ih (by omega)
    have b := hN.2 k (by omega)
    rw [spanI_s]
    split
    · exact ⟨b, b⟩
    · simp only [minI, maxI]
      split <;> split <;> omega
theorem c_need {p1 p2 p3 : Int32} {x h t : Int} (h1 : rp p1 x 34499) (h2 : rp p2 h 999) (h3 : rp p3 t 999) : ∃ e, f_Ni_lengthNeeded p1 p2 p3 = some e ∧ rp e (rootI (x * x + (h + t - 300) * (h + t - 300))) 60000 := by
  have k := (h2.add h3 (by decide)).sub (rp.lit 300 300 (a := 300) rfl rfl) (by decide)
  obtain ⟨t', et, ht⟩ := f_AL_root_ok (h1.wide _ (by decide)) (k.wide _ (by decide))
  refine ⟨t', ?_, ht, ?_, ?_⟩
  · unfold f_Ni_lengthNeeded
    rw [et]; rfl
  · have := rootI_nonneg (x * x + (h + t - 300) * (h + t - 300)); omega
  · refine rootI_le (zsum_nonneg _ _) (by decide) ?_
    have a := zmulb h1.2.1 h1.2.2 h1.2.1 h1.2.2
    have b := zmulb k.2.1 k.2.2 k.2.1 k.2.2
    omega
theorem lin_of_eq {j : Int32} {i : Nat} (h : j.toInt = (i : Int)) (hi : i < 1000) : j = Int32.ofNat i := lit_of h hi
theorem c_tend {v0 : tNi} {w : tTi} {nh : Nat} {H : Nat → Int} (h24 : nh ≤ 24) (hH : ∀ k, k < nh → 0 ≤ H k ∧ H k ≤ 999) (hn : (gTi_ints w 0).toInt = (nh : Int)) (hh : ∀ k, k < nh → (gTi_heights w k).toInt = H k) {p1 p2 : Int32} {x h : Int} (h1 : rp p1 x 34499) (h2 : rp p2 h 999) {N : Nat → Int} (hNe : ∀ k, N k = rootI (x * x + (h + H k - 300) * (h + H k - 300))) (hN : nightB N nh) :
    ∃ r, f_Ni_tend v0 w p1 p2 = some r ∧ ((r.1 0).toInt = (cntA N nh : Int) ∧ ∀ k, k < nh → anewI N k = true → r.2 (cntA N k) = Int32.ofNat k) := by
  unfold f_Ni_tend
  have loop : ∃ e, lp (fB_Ni_tend_14 w p1 p2) LF (0, 0, 0, upd (gNi_ints v0) 0 0, gNi_hours v0) = some e ∧ ((e.2.2.2.1 0).toInt = (cntA N nh : Int) ∧ ∀ k, k < nh → anewI N k = true → e.2.2.2.2 (cntA N k) = Int32.ofNat k) := by
    refine lp_inv (N := nh) (I := fun i t => t.1.toInt = (spanI N i).1 ∧ t.2.1.toInt = (spanI N i).2 ∧ t.2.2.1.toInt = (i : Int) ∧ (t.2.2.2.1 0).toInt = (cntA N i : Int) ∧ ∀ k, k < i → anewI N k = true → t.2.2.2.2 (cntA N k) = Int32.ofNat k) (by omega) ?_ ?_ (i := 0) (by omega) ⟨rfl, rfl, rfl, rfl, fun k g => absurd g (by omega)⟩
    · rintro i hi ⟨lo, hi', j, f, g⟩ ih ⟨a1, a2, a3, a4, a5⟩ go
      have a1 : lo.toInt = (spanI N i).1 := a1
      have a2 : hi'.toInt = (spanI N i).2 := a2
      have a3 : j.toInt = (i : Int) := a3
      have a4 : (f 0).toInt = (cntA N i : Int) := a4
      have a5 : ∀ k, k < i → anewI N k = true → g (cntA N k) = Int32.ofNat k := a5
      have sb := spanI_b hN i (by omega)
      have nb := hN.2 i hi
      have cl := cntA_le N i
      have js := toInt_succ a3 (by omega)
      have c1 : ¬ gTi_ints w 0 ≤ j := lt_lit a3 hn hi
      have c2 : ¬ (24 : Int32) ≤ j := lt_lit a3 (N := 24) rfl (by omega)
      simp only [fB_Ni_tend_14]
      rw [if_neg c1, if_neg c2]
      have eh : f_Ti_heightAt w j = some (gTi_heights w i) := by
        unfold f_Ti_heightAt f_Ti_hasHour
        have c0 : ¬ j < 0 := by rw [Int32.lt_iff_toInt_lt, a3]; show ¬ (i : Int) < 0; omega
        rw [if_neg c0, if_neg c1, if_neg c2, if_neg (show ¬ (1 : Int32) = 0 by decide), if_pos (inb_ok (by omega) (by omega)), ix_eq a3]
      refine bind_ex eh ?_
      have hb := hH i hi
      refine bind_ex' (c_need h1 h2 (rp.of 999 (hh i hi) (by omega) (by omega))) (fun r9 h9 => ?_)
      rw [← hNe i] at h9
      refine zlet_ex fun z10 h10 => ?_
      refine zlet_ex fun z11 h11 => ?_
      have k10 := (rp.of (a := lo) 60000 a1 (by omega) (by omega)).min h9
      have k11 := (rp.of (a := hi') 60000 a2 (by omega) (by omega)).max h9
      rw [← h10] at k10
      rw [← h11] at k11
      have e10 : (if N i < (spanI N i).1 then N i else (spanI N i).1) = minI (spanI N i).1 (N i) := rfl
      have e11 : (if (spanI N i).2 < N i then N i else (spanI N i).2) = maxI (spanI N i).2 (N i) := rfl
      rw [e10] at k10
      rw [e11] at k11
      have k10 : rp z10 (minI (spanI N i).1 (N i)) 60000 := k10
      have k11 : rp z11 (maxI (spanI N i).2 (N i)) 60000 := k11
      have fin : inb (f 0) 24 = true := inb_ok (by omega) (by omega)
      have fix : ix (f 0) = cntA N i := ix_eq a4
      have anew : anewI N i = true → ∀ z14 : Int32, z14 = f 0 + 1 → ∃ e, ih (r9, r9, j + 1, upd f 0 z14, upd g (cntA N i) j) = some e ∧ ((e.2.2.2.1 0).toInt = (cntA N nh : Int) ∧ ∀ k, k < nh → anewI N k = true → e.2.2.2.2 (cntA N k) = Int32.ofNat k) := by
        intro a z14 h14
        refine go _ ⟨?_, ?_, js, ?_, fun k hk ak => ?_⟩
        · show r9.toInt = _
          rw [spanI_s, if_pos a]; exact h9.1
        · show r9.toInt = _
          rw [spanI_s, if_pos a]; exact h9.1
        · show (upd f 0 z14 0).toInt = _
          rw [upd_eq, h14, toInt_succ a4 (by omega)]
          rw [show cntA N (i + 1) = (if anewI N i = true then cntA N i + 1 else cntA N i) from rfl, if_pos a]
        · show upd g (cntA N i) j (cntA N k) = _
          by_cases e : k = i
          · subst e; rw [upd_eq]; exact lit_of a3 (by omega)
          · have m1 := cntA_mono N (k + 1) (i - (k + 1))
            rw [show k + 1 + (i - (k + 1)) = i by omega] at m1
            have m2 : cntA N (k + 1) = cntA N k + 1 := by
              show (if anewI N k = true then cntA N k + 1 else cntA N k) = _
              rw [if_pos ak]
            rw [upd_ne _ _ (by omega)]; exact a5 k (by omega) ak
      by_cases d0 : f 0 = 0
      · have i0 : i = 0 := by
          have : (f 0).toInt = 0 := by rw [d0]; rfl
          rcases Nat.eq_zero_or_pos i with z | z
          · exact z
          · have := cntA_pos N (i - 1)
            rw [show i - 1 + 1 = i by omega] at this
            omega
        rw [if_pos d0, if_pos fin, fix]
        refine zlet_ex fun z14 h14 => ?_
        exact anew (by unfold anewI; simp [i0]) z14 h14
      · rw [if_neg d0]
        have i0 : ¬ i = 0 := fun z => d0 (Int32.toInt_inj.mp (by rw [a4, z]; rfl))
        have kd := k11.sub k10 (by decide)
        by_cases d1 : z11 - z10 ≤ 100
        · have d1' := (kd.le (rp.lit 100 100 (a := 100) rfl rfl)).mp d1
          rw [if_pos d1]
          have a : ¬ anewI N i = true := by
            unfold anewI
            rw [decide_eq_true_eq]
            omega
          refine go _ ⟨?_, ?_, js, ?_, fun k hk ak => ?_⟩
          · show z10.toInt = _
            rw [spanI_s, if_neg a]; exact k10.1
          · show z11.toInt = _
            rw [spanI_s, if_neg a]; exact k11.1
          · show (f 0).toInt = _
            rw [a4, show cntA N (i + 1) = (if anewI N i = true then cntA N i + 1 else cntA N i) from rfl, if_neg a]
          · by_cases e : k = i
            · subst e; exact absurd ak a
            · exact a5 k (by omega) ak
        · have d1' : ¬ _ := fun g => d1 ((kd.le (rp.lit 100 100 (a := 100) rfl rfl)).mpr g)
          rw [if_neg d1, if_pos fin, fix]
          refine zlet_ex fun z14 h14 => ?_
          exact anew (by unfold anewI; rw [decide_eq_true_eq]; omega) z14 h14
    · rintro ⟨lo, hi', j, f, g⟩ ih ⟨a1, a2, a3, a4, a5⟩
      have a3 : j.toInt = (nh : Int) := a3
      simp only [fB_Ni_tend_14]
      rw [if_pos (ge_lit a3 hn (by omega))]
      exact ⟨_, rfl, a4, a5⟩
  exact bind_ex' loop (fun q2 h2 => ⟨_, rfl, h2⟩)
theorem c_set {v : tNi} {N : Nat → Int} {nh : Nat} (h24 : nh ≤ 24) (hs : (gNi_ints v 0).toInt = (cntA N nh : Int)) (hh : ∀ k, k < nh → anewI N k = true → gNi_hours v (cntA N k) = Int32.ofNat k) : f_Ni_hoursAsSet v = some (setA N nh) := by
  have cl := cntA_le N nh
  unfold f_Ni_hoursAsSet
  have loop : ∃ e, lp (fB_Ni_hoursAsSet_4 v) LF (0, 0) = some e ∧ e.1 = setA N nh := by
    refine lp_inv (N := cntA N nh) (I := fun i t => t.2.toInt = (i : Int) ∧ ∃ y, y ≤ nh ∧ cntA N y = i ∧ t.1 = setA N y) (by omega) ?_ ?_ (i := 0) (by omega) ⟨rfl, 0, by omega, rfl, rfl⟩
    · rintro i hi ⟨a, j⟩ ih ⟨a1, y, y1, y2, y3⟩ go
      have a1 : j.toInt = (i : Int) := a1
      have y3 : a = setA N y := y3
      obtain ⟨k, k1, k2, k3⟩ := ex_hour N hi
      simp only [fB_Ni_hoursAsSet_4]
      rw [if_neg (lt_lit a1 hs hi), if_neg (lt_lit a1 (N := 24) rfl (by omega)), if_pos (inb_ok (by omega) (by omega)), ix_eq a1]
      refine zlet_ex fun z9 h9 => ?_
      have e1 : gNi_hours v i = Int32.ofNat k := by rw [← k2]; exact hh k k1 k3
      rw [e1] at h9
      have e2 : setA N y = setA N k := by
        rcases Nat.le_total y k with g | g
        · exact setA_same N g (by omega)
        · exact (setA_same N g (by omega)).symm
      refine go _ ⟨toInt_succ a1 (by omega), k + 1, by omega, ?_, ?_⟩
      · show (if anewI N k = true then cntA N k + 1 else cntA N k) = _
        rw [if_pos k3]; omega
      · show z9 = (if anewI N k = true then setA N k ||| (1 <<< (Int32.ofNat k &&& 31)) else setA N k)
        rw [if_pos k3, h9, y3, e2]
    · rintro ⟨a, j⟩ ih ⟨a1, y, y1, y2, y3⟩
      have a1 : j.toInt = (cntA N nh : Int) := a1
      simp only [fB_Ni_hoursAsSet_4]
      rw [if_pos (ge_lit a1 hs (by omega))]
      exact ⟨_, rfl, y3.trans (setA_same N y1 y2)⟩
  obtain ⟨e, e1, e2⟩ := loop
  rw [e1, Option.bind_some, e2]
section
variable {m : tMo} {q px ps s L : Nat → Int} {c : Int}
theorem m_need (hS : mS (gMo_ship m) s) (hR : RB c s) (hQ : mQ (gMo_ints m) (gMo_told m) (gMo_postX m) (gMo_postStrong m) q px ps) (hB : QB q px ps) (hL : LB q L) (hl : mL (gMo_lines m) L) {l : Nat} (h6 : l < 6) {p1 : Int32} (hp : p1.toInt = (l : Int)) (hf : L (4 * l) = 1) {H : Nat → Int} {k : Nat} (hk : k < 24) {p2 : Int32} (hp2 : p2.toInt = (k : Int)) (hh : (gMo_heights m k).toInt = H k) (hb : 0 ≤ H k ∧ H k ≤ 999) {p3 : Int32} {h : Int} (h3 : rp p3 h 999) : ∃ e, f_Mo_needsOf m p1 p2 p3 = some e ∧ rq e (needI q px s L H l h k) 60000 := by
  have lb := hL_of hL h6 hf
  have b13 := hB.2.2.2.2.2.2.2.2.2.2.2.2.1
  obtain ⟨i1, j1⟩ := ix4c hp h6 (c := 1) (k := 1) rfl (by decide)
  obtain ⟨i2, j2⟩ := ix4c hp h6 (c := 2) (k := 2) rfl (by decide)
  have l2 := hl (4 * l + 2) (by omega)
  have rpl : rp (gMo_lines m (4 * l + 1)) (L (4 * l + 1)) 100 := ⟨hl _ (by omega), by omega, by omega⟩
  unfold f_Mo_needsOf
  rw [if_pos j2, i2, if_pos (inb_ok (i := gMo_lines m (4 * l + 2)) (n := 12) (by omega) (by omega)), if_pos j1, i1]
  refine zlet_ex fun z4 h4 => ?_
  have k4 := m_way hS hR.1 (by decide) hQ hB rpl l2 lb.2.1.1 lb.2.1.2
  rw [← h4] at k4
  rw [if_pos (inb_ok (by omega) (by omega)), ix_eq hp2]
  refine zlet_ex fun z6 h6' => ?_
  have k6 := ((h3.add (rp.of (a := gMo_heights m k) 999 hh (by omega) (by omega)) (by decide)).long).sub (rq.lit 300 300 (a := 300) rfl rfl) (by decide)
  rw [← h6'] at k6
  have hv := (k4.mul k4 (by decide)).add (k6.mul k6 (by decide)) (by decide)
  obtain ⟨t, et, ht⟩ := f_Mo_root_ok hv.1 (zsum_nonneg _ _) (by have := hv.2.2; omega)
  refine bind_ex et ⟨t, rfl, ht, ?_, ?_⟩
  · have := rootI_nonneg (wayI q px s (L (4 * l + 1)) (L (4 * l + 2)) * wayI q px s (L (4 * l + 1)) (L (4 * l + 2)) + (h + H k - 300) * (h + H k - 300))
    unfold needI; omega
  · refine rootI_le (zsum_nonneg _ _) (by decide) ?_
    have a := zmulb k4.2.1 k4.2.2 k4.2.1 k4.2.2
    have b := zmulb k6.2.1 k6.2.2 k6.2.1 k6.2.2
    omega
theorem m_told (hS : mS (gMo_ship m) s) (hR : RB c s) (hQ : mQ (gMo_ints m) (gMo_told m) (gMo_postX m) (gMo_postStrong m) q px ps) (hB : QB q px ps) (hL : LB q L) (hl : mL (gMo_lines m) L) {l : Nat} (h6 : l < 6) {p1 : Int32} (hp : p1.toInt = (l : Int)) (hf : L (4 * l) = 1) {H : Nat → Int} {nh : Nat} (h24 : nh ≤ 24) (hH : ∀ k, k < nh → 0 ≤ H k ∧ H k ≤ 999) (hn : (gMo_ints m 6).toInt = (nh : Int)) (hh : ∀ k, k < nh → (gMo_heights m k).toInt = H k) {p2 : Int32} {h : Int} (h3 : rp p2 h 999) : f_Mo_toldAt m p1 p2 = some (setA (needI q px s L H l h) nh) ∧ nightB (needI q px s L H l h) nh := by
  have hN : nightB (needI q px s L H l h) nh := by
    refine ⟨h24, fun k hk => ?_⟩
    obtain ⟨e, _, he⟩ := m_need hS hR hQ hB hL hl h6 hp hf (k := k) (by omega) (p2 := Int32.ofNat k) (Int32.toInt_ofNat_of_lt (by omega)) (hh k hk) (hH k hk) h3
    exact ⟨rootI_nonneg _, he.2.2⟩
  refine ⟨?_, hN⟩
  unfold f_Mo_toldAt
  have loop : ∃ e, lp (fB_Mo_toldAt_11 m p1 p2) LF (0, 0, 0, 0) = some e ∧ e.1 = setA (needI q px s L H l h) nh := by
    refine lp_inv (N := nh) (I := fun i t => t.1 = setA (needI q px s L H l h) i ∧ t.2.1.toInt = (spanI (needI q px s L H l h) i).1 ∧ t.2.2.1.toInt = (spanI (needI q px s L H l h) i).2 ∧ t.2.2.2.toInt = (i : Int)) (by omega) ?_ ?_ (i := 0) (by omega) ⟨rfl, rfl, rfl, rfl⟩
    · rintro i hi ⟨st, lo, hi', j⟩ ih ⟨a1, a2, a3, a4⟩ go
      have a1 : st = setA (needI q px s L H l h) i := a1
      have a2 : lo.toInt = (spanI (needI q px s L H l h) i).1 := a2
      have a3 : hi'.toInt = (spanI (needI q px s L H l h) i).2 := a3
      have a4 : j.toInt = (i : Int) := a4
      have sb := spanI_b hN i (by omega)
      have nb := hN.2 i hi
      have js := toInt_succ a4 (by omega)
      simp only [fB_Mo_toldAt_11]
      rw [if_neg (lt_lit a4 hn hi)]
      refine bind_ex' (m_need hS hR hQ hB hL hl h6 hp hf (k := i) (by omega) a4 (hh i hi) (hH i hi) h3) (fun r7 h7 => ?_)
      generalize needI q px s L H l h = N at *
      have klo := rq.of (a := lo) 60000 a2 (by omega) (by omega)
      have khi := rq.of (a := hi') 60000 a3 (by omega) (by omega)
      refine zlet_ex fun w8 h8 => ?_
      refine zlet_ex fun w11 h11 => ?_
      have k8 : rq w8 (minI (spanI N i).1 (N i)) 60000 := by
        rw [h8]; unfold minI
        by_cases d : lo ≤ r7
        · have d' := (klo.le h7).mp d
          rw [if_pos d, if_neg (by omega)]; exact klo
        · have d' : ¬ _ := fun g => d ((klo.le h7).mpr g)
          rw [if_neg d, if_pos (by omega)]; exact h7
      have k11 : rq w11 (maxI (spanI N i).2 (N i)) 60000 := by
        rw [h11]; unfold maxI
        by_cases d : r7 ≤ hi'
        · have d' := (h7.le khi).mp d
          rw [if_pos d, if_neg (by omega)]; exact khi
        · have d' : ¬ _ := fun g => d ((h7.le khi).mpr g)
          rw [if_neg d, if_pos (by omega)]; exact h7
      have kd := k11.sub k8 (by decide)
      refine zlet_ex fun w14 h14 => ?_
      have k14 : okI (anewI N i = true) w14 := by
        rw [h14]
        unfold anewI
        rw [decide_eq_true_eq]
        by_cases d0 : j = 0
        · rw [if_pos d0]
          exact Or.inl ⟨Or.inl (by have : j.toInt = 0 := by rw [d0]; rfl
                                   omega), rfl⟩
        · have d0' : ¬ i = 0 := fun g => d0 (Int32.toInt_inj.mp (by rw [a4, g]; rfl))
          rw [if_neg d0]
          by_cases d1 : w11 - w8 ≤ 100
          · have d1' := (kd.le (rq.lit 100 100 (a := 100) rfl rfl)).mp d1
            rw [if_pos d1]; exact Or.inr ⟨by omega, rfl⟩
          · have d1' : ¬ _ := fun g => d1 ((kd.le (rq.lit 100 100 (a := 100) rfl rfl)).mpr g)
            rw [if_neg d1]; exact Or.inl ⟨by omega, rfl⟩
      have ej : j = Int32.ofNat i := lit_of a4 (by omega)
      have sA : setA N (i + 1) = if anewI N i = true then setA N i ||| (1 <<< (Int32.ofNat i &&& 31)) else setA N i := rfl
      refine zlet_ex fun w18 h18 => ?_
      refine zlet_ex fun z21 h21 => ?_
      refine zlet_ex fun w22 h22 => ?_
      rcases k14 with ⟨f1, f2⟩ | ⟨f1, f2⟩
      · have w1 : ¬ w14 = 0 := by rw [f2]; decide
        rw [if_neg w1] at h18 h22
        rw [if_neg w1]
        refine go _ ⟨?_, ?_, ?_, js⟩
        · show z21 = _
          rw [sA, if_pos f1, h21, h18, a1, ej]
        · show w22.toInt = _
          rw [spanI_s, if_pos f1, h22]; exact h7.1
        · show r7.toInt = _
          rw [spanI_s, if_pos f1]; exact h7.1
      · rw [if_pos f2] at h18 h22
        rw [if_pos f2]
        refine go _ ⟨?_, ?_, ?_, js⟩
        · show z21 = _
          rw [sA, if_neg f1, h21, h18, a1]; exact Int32.or_zero
        · show w22.toInt = _
          rw [spanI_s, if_neg f1, h22]; exact k8.1
        · show w11.toInt = _
          rw [spanI_s, if_neg f1]; exact k11.1
    · rintro ⟨st, lo, hi', j⟩ ih ⟨a1, a2, a3, a4⟩
      have a4 : j.toInt = (nh : Int) := a4
      simp only [fB_Mo_toldAt_11]
      rw [if_pos (ge_lit a4 hn (by omega))]
      exact ⟨_, rfl, a1⟩
  obtain ⟨e, e1, e2⟩ := loop
  rw [e1, Option.bind_some, e2]
end
