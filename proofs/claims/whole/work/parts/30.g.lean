/-! THE PURE SIDE 7: a second of the reference -/
theorem bind_ex' {α β : Type} {o : Option α} {k : α → Option β} {P : α → Prop} {Q : β → Prop} (h : ∃ a, o = some a ∧ P a) (h2 : ∀ a, P a → ∃ r, k a = some r ∧ Q r) : ∃ r, Option.bind o k = some r ∧ Q r := by
  obtain ⟨a, h, hp⟩ := h
  rw [h]; exact h2 a hp
theorem m_in {a b c : Int64} {x y z : Int} {A B C : Nat} (ha : rq a x A) (hb : rq b y B) (hc : rq c z C) : f_Mo_in a b c = if y ≤ x ∧ x ≤ z then 1 else 0 := by
  unfold f_Mo_in
  by_cases d : a < b
  · have := (ha.lt hb).mp d
    rw [if_pos d, if_neg (by omega)]
  · have d' : ¬ x < y := fun h => d ((ha.lt hb).mpr h)
    rw [if_neg d]
    by_cases e : c < a
    · have := (hc.lt ha).mp e
      rw [if_pos e, if_neg (by omega)]
    · have e' : ¬ z < x := fun h => e ((hc.lt ha).mpr h)
      rw [if_neg e, if_pos (by omega)]
theorem ix4 {p : Int32} {l : Nat} (hp : p.toInt = (l : Int)) (hl : l < 6) : ix (4 * p) = 4 * l ∧ inb (4 * p) 24 = true := by
  have h := (rp.lit 4 4 (a := 4) rfl rfl).mul (rp.of 6 hp (by omega) (by omega)) (by decide)
  have h1 := h.1
  exact ⟨ix_eq (by omega), inb_ok (by omega) (by omega)⟩
theorem ix4c {p c : Int32} {l k : Nat} (hp : p.toInt = (l : Int)) (hl : l < 6) (hc : c.toInt = (k : Int)) (hk : k < 4) : ix (4 * p + c) = 4 * l + k ∧ inb (4 * p + c) 24 = true := by
  have h := ((rp.lit 4 4 (a := 4) rfl rfl).mul (rp.of 6 hp (by omega) (by omega)) (by decide)).add (rp.of 4 hc (by omega) (by omega)) (by decide)
  have h1 := h.1
  exact ⟨ix_eq (by omega), inb_ok (by omega) (by omega)⟩
theorem rest_e1 (q px ps s L : Nat → Int) (l : Nat) : restI q px ps s L (4 * l + 1) = L (4 * l + 1) := by unfold restI; rw [if_neg (by omega)]
theorem rest_e2 (q px ps s L : Nat → Int) (l : Nat) : restI q px ps s L (4 * l + 2) = L (4 * l + 2) := by unfold restI; rw [if_neg (by omega)]
theorem rest_e3 (q px ps s L : Nat → Int) (l : Nat) : restI q px ps s L (4 * l + 3) = L (4 * l + 3) := by unfold restI; rw [if_neg (by omega)]
theorem rest_e0 {q px ps s L : Nat → Int} (hL : LB q L) {l : Nat} (hl : l < 6) : restI q px ps s L (4 * l) = 1 ↔ (L (4 * l) = 1 ∧ goneI q px ps s L l = 0) := by
  unfold restI
  rw [Nat.mul_div_cancel_left l (by decide)]
  have g := goneI_01 q px ps s L l
  by_cases h : goneI q px ps s L l = 1
  · rw [if_pos ⟨by omega, h⟩]; omega
  · rw [if_neg (by omega)]; omega
section
variable {m : tMo} {q px ps s L : Nat → Int} {X Y c ch ck : Int}
theorem m_arm (hQ : mQ (gMo_ints m) (gMo_told m) (gMo_postX m) (gMo_postStrong m) q px ps) (hB : QB q px ps) {p : Int32} {x : Int} (hp : rp p x 100) : rq (f_Mo_arm m p) (armI q x) 4500 := by
  have a : rp (gMo_told m 2) (q 2) 9000 := ⟨hQ.1 2 (by decide), by have := hB.2.1; omega, by have := hB.2.1; omega⟩
  exact ((a.divk (b := 2) 2 2 rfl rfl (by decide) (by decide)).long.mul hp.long (by decide)).divk (b := 100) 100 100 rfl rfl (by decide) (by decide)
theorem m_along (hS : mS (gMo_ship m) s) (hb : SB X Y c ch ck s) (hX : X ≤ 20000) (hQ : mQ (gMo_ints m) (gMo_told m) (gMo_postX m) (gMo_postStrong m) q px ps) (hB : QB q px ps) {p : Int32} {x : Int} (hp : rp p x 100) : rq (f_Mo_along m p) (s 0 + armI q x) 24500 :=
  (rq.of 20000 hS.1 (by have := hb.1; omega) (by have := hb.1; omega)).add (m_arm hQ hB hp) (by decide)
theorem m_free (hS : mS (gMo_ship m) s) (hb : SB X Y c ch ck s) (hY : Y ≤ 40000) (hQ : mQ (gMo_ints m) (gMo_told m) (gMo_postX m) (gMo_postStrong m) q px ps) (hB : QB q px ps) {p : Int32} {x : Int} (hp : rp p x 100) : rq (f_Mo_freely m p) (freeI q s x) 43534 := by
  have r1 : rq (gMo_ship m 1) (s 1) 40000 := ⟨hS.2.1, by have := hb.2.1; omega, by have := hb.2.1; omega⟩
  have r2 : rq (gMo_ship m 2) (s 2) 45000 := ⟨hS.2.2.1, by have := hb.2.2.1; omega, by have := hb.2.2.1; omega⟩
  exact r1.sub (((m_arm hQ hB hp).mul r2 (by decide)).divk (b := 57296) 57296 57296 rfl rfl (by decide) (by decide)) (by decide)
theorem m_off (hS : mS (gMo_ship m) s) (hb : SB X Y c ch ck s) (hY : Y ≤ 40000) (hQ : mQ (gMo_ints m) (gMo_told m) (gMo_postX m) (gMo_postStrong m) q px ps) (hB : QB q px ps) {p : Int32} {x : Int} (hp : rp p x 100) : rq (f_Mo_offOf m p) (offI q s x) 43534 := by
  have h := m_free hS hb hY hQ hB hp
  unfold f_Mo_offOf
  refine zlet_P (fun z => rq z _ _) fun z1 h1 => ?_
  rw [← h1] at h
  unfold offI
  by_cases d : 0 ≤ z1
  · have d' := ((rq.lit 0 0 (a := 0) rfl rfl).le h).mp d
    rw [if_pos d, if_neg (by omega)]; exact h
  · have d' : ¬ 0 ≤ freeI q s x := fun g => d (((rq.lit 0 0 (a := 0) rfl rfl).le h).mpr g)
    rw [if_neg d, if_pos (by omega)]; exact rq.lit 0 _ rfl rfl
theorem m_way (hS : mS (gMo_ship m) s) (hb : SB X Y c ch ck s) (hX : X ≤ 20000) (hQ : mQ (gMo_ints m) (gMo_told m) (gMo_postX m) (gMo_postStrong m) q px ps) (hB : QB q px ps) {p : Int32} {x y : Int} (hp : rp p x 100) {k : Int32} (hk : k.toInt = y) (h0 : 0 ≤ y) (h1 : y < q 13) : rq ((gMo_postX m (ix k)).toInt64 - f_Mo_along m p) (wayI q px s x y) 34499 := by
  have hy : ((y.toNat : Nat) : Int) = y := Int.toNat_of_nonneg h0
  have e1 : ix k = y.toNat := ix_eq (by omega)
  have b := (hB.2.2.2.2.2.2.2.2.2.2.2.2.2 y.toNat (by omega)).1
  have r : rp (gMo_postX m (ix k)) (px y.toNat) 9999 := by
    rw [e1]; exact ⟨(hQ.2.2 _ (by omega)).1, by omega, by omega⟩
  exact r.long.sub (m_along hS hb hX hQ hB hp) (by decide)
theorem m_dist (hS : mS (gMo_ship m) s) (hb : SB X Y c ch ck s) (hX : X ≤ 20000) (hY : Y ≤ 40000) (hQ : mQ (gMo_ints m) (gMo_told m) (gMo_postX m) (gMo_postStrong m) q px ps) (hB : QB q px ps) {p k : Int32} {x y : Int} (hp : rp p x 100) (hk : k.toInt = y) (h0 : 0 ≤ y) (h1 : y < q 13) : ∃ e, f_Mo_distance m p k = some e ∧ rq e (distI q px s x y) 60000 := by
  have b13 := hB.2.2.2.2.2.2.2.2.2.2.2.2.1
  have hw := m_way hS hb hX hQ hB hp hk h0 h1
  have ho := m_off hS hb hY hQ hB hp
  unfold f_Mo_distance
  rw [if_pos (inb_ok (by omega) (by omega))]
  refine zlet_ex fun z2 h2 => ?_
  rw [← h2] at hw
  refine zlet_ex fun z3 h3 => ?_
  rw [← h3] at ho
  have hv := (hw.mul hw (by decide)).add (ho.mul ho (by decide)) (by decide)
  obtain ⟨t, et, ht⟩ := f_Mo_root_ok hv.1 (zsum_nonneg _ _) (by have := hv.2.2; omega)
  refine bind_ex et ⟨t, rfl, ht, ?_, ?_⟩
  · have := distI_nonneg q px s x y; omega
  · exact distI_le (by have := hw.2.1; omega) (by have := hw.2.2; omega) (by have := ho.2.2; omega)
theorem m_isFast (hl : mL (gMo_lines m) L) {l : Nat} (h6 : l < 6) {p : Int32} (hp : p.toInt = (l : Int)) : f_Mo_isFast m p = some (if L (4 * l) = 1 then 1 else 0) := by
  unfold f_Mo_isFast
  rw [m_in (rp.of 6 hp (by omega) (by omega)).long (rq.lit 0 0 (a := 0) rfl rfl) (rq.lit 5 5 (a := 5) rfl rfl), if_pos (show (0 : Int) ≤ l ∧ (l : Int) ≤ 5 by omega), if_neg (show ¬ (1 : Int32) = 0 by decide)]
  obtain ⟨i1, i2⟩ := ix4 hp h6
  rw [if_pos i2, i1]
  have e := hl (4 * l) (by omega)
  by_cases d : L (4 * l) = 1
  · rw [if_pos d, if_pos]
    exact Int32.toInt_inj.mp (by rw [e, d]; rfl)
  · rw [if_neg d, if_neg]
    intro g
    rw [g] at e
    exact d e.symm
theorem m_pull (hS : mS (gMo_ship m) s) (hb : SB X Y c ch ck s) (hX : X ≤ 20000) (hY : Y ≤ 40000) (hQ : mQ (gMo_ints m) (gMo_told m) (gMo_postX m) (gMo_postStrong m) q px ps) (hB : QB q px ps) (hL : LB q L) (hl : mL (gMo_lines m) L) {l : Nat} (h6 : l < 6) {p : Int32} (hp : p.toInt = (l : Int)) (hf : L (4 * l) = 1) : ∃ e, f_Mo_pull m p = some e ∧ rq e (lpullI q px s L l) 1188000 := by
  have hLl : (-100 ≤ L (4 * l + 1) ∧ L (4 * l + 1) ≤ 100) ∧ (0 ≤ L (4 * l + 2) ∧ L (4 * l + 2) < q 13) ∧ (0 ≤ L (4 * l + 3) ∧ L (4 * l + 3) ≤ 60000) := by
    rcases hL l h6 with h | h
    · omega
    · exact h.2
  obtain ⟨i1, j1⟩ := ix4c hp h6 (c := 1) (k := 1) rfl (by decide)
  obtain ⟨i2, j2⟩ := ix4c hp h6 (c := 2) (k := 2) rfl (by decide)
  obtain ⟨i3, j3⟩ := ix4c hp h6 (c := 3) (k := 3) rfl (by decide)
  have rpl : rp (gMo_lines m (4 * l + 1)) (L (4 * l + 1)) 100 := ⟨hl _ (by omega), by omega, by omega⟩
  have rle : rp (gMo_lines m (4 * l + 3)) (L (4 * l + 3)) 60000 := ⟨hl _ (by omega), by omega, by omega⟩
  have r11 : rp (gMo_told m 11) (q 11) 99 := ⟨hQ.1 11 (by decide), by have := hB.2.2.2.2.2.2.2.2.2.2.1; omega, by have := hB.2.2.2.2.2.2.2.2.2.2.1; omega⟩
  unfold f_Mo_pull
  rw [if_pos j1, if_pos j2, i1, i2]
  refine bind_ex' (m_dist hS hb hX hY hQ hB rpl (hl (4 * l + 2) (by omega)) hLl.2.1.1 hLl.2.1.2) (fun r3 h3 => ?_)
  rw [if_pos j3, i3]
  refine zlet_ex fun z5 h5 => ?_
  have r5 := ((h3.sub rle.long (by decide)).mul r11.long (by decide)).divk (b := 10) 10 10 rfl rfl (by decide) (by decide)
  rw [← h5] at r5
  unfold lpullI pullI
  by_cases d : 0 ≤ z5
  · have d' := ((rq.lit 0 0 (a := 0) rfl rfl).le r5).mp d
    rw [if_pos d, if_neg (by omega)]; exact ⟨_, rfl, r5⟩
  · have d' : ¬ _ := fun g => d (((rq.lit 0 0 (a := 0) rfl rfl).le r5).mpr g)
    rw [if_neg d, if_pos (by omega)]; exact ⟨_, rfl, rq.lit 0 _ rfl rfl⟩
theorem m_part (hS : mS (gMo_ship m) s) (hb : SB X Y c ch ck s) (hX : X ≤ 20000) (hY : Y ≤ 40000) (hQ : mQ (gMo_ints m) (gMo_told m) (gMo_postX m) (gMo_postStrong m) q px ps) (hB : QB q px ps) (hL : LB q L) (hl : mL (gMo_lines m) L) :
    ∃ r, f_Mo_partLines m = some r ∧ (r.1.toInt = partedI q px ps s L 6 ∧ mL r.2.1 (restI q px ps s L)) := by
  have hpb : ∀ l : Nat, 0 ≤ partedI q px ps s L l ∧ partedI q px ps s L l ≤ (l : Int) := by
    intro l
    induction l with
    | zero => exact ⟨Int.le_refl _, Int.le_refl _⟩
    | succ l ih =>
      unfold partedI
      rcases goneI_01 q px ps s L l with h | h <;> rw [h] <;> omega
  unfold f_Mo_partLines
  have one : ∃ e, lp (fB_Mo_partLines_4 m) LF (0, 0, gMo_parting m) = some e ∧ (e.1.toInt = partedI q px ps s L 6 ∧ ∀ l, l < 6 → (e.2.2 l).toInt = goneI q px ps s L l) := by
    refine lp_inv (N := 6) (I := fun i t => t.1.toInt = partedI q px ps s L i ∧ t.2.1.toInt = (i : Int) ∧ ∀ l, l < i → (t.2.2 l).toInt = goneI q px ps s L l) (by decide) ?_ ?_ (i := 0) (by decide) ⟨rfl, rfl, fun l hl => absurd hl (by omega)⟩
    · rintro i hi ⟨n, j, f⟩ ih ⟨a1, a2, a3⟩ go
      have a1 : n.toInt = partedI q px ps s L i := a1
      have a2 : j.toInt = (i : Int) := a2
      have a3 : ∀ l, l < i → (f l).toInt = goneI q px ps s L l := a3
      have j6 : ¬ (6 : Int32) ≤ j := by rw [Int32.le_iff_toInt_le, a2]; show ¬ (6 : Int) ≤ _; omega
      have hin : inb j 6 = true := inb_ok (by omega) (by omega)
      have hix : ix j = i := ix_eq a2
      have pb := hpb i
      have nb : rp n (partedI q px ps s L i) 6 := ⟨a1, by omega, by omega⟩
      simp only [fB_Mo_partLines_4]
      rw [if_neg j6]
      refine bind_ex (m_isFast hl hi a2) ?_
      refine bind_ex' (P := fun (x : Int32) => rp x (goneI q px ps s L i) 1) ?_ (fun w9 h9 => ?_)
      · by_cases hf : L (4 * i) = 1
        · rw [if_pos hf, if_neg (show ¬ (1 : Int32) = 0 by decide)]
          refine bind_ex' (m_pull hS hb hX hY hQ hB hL hl hi a2 hf) (fun r12 h12 => ?_)
          obtain ⟨i2, j2⟩ := ix4c a2 hi (c := 2) (k := 2) rfl (by decide)
          have b13 := hB.2.2.2.2.2.2.2.2.2.2.2.2.1
          have hLl : 0 ≤ L (4 * i + 2) ∧ L (4 * i + 2) < q 13 := by
            rcases hL i hi with h | h <;> omega
          have e2 := hl (4 * i + 2) (by omega)
          have e3 : ix (gMo_lines m (4 * i + 2)) = (L (4 * i + 2)).toNat := ix_eq (by omega)
          have b := (hB.2.2.2.2.2.2.2.2.2.2.2.2.2 (L (4 * i + 2)).toNat (by omega)).2
          have rs : rp (gMo_postStrong m (L (4 * i + 2)).toNat) (ps (L (4 * i + 2)).toNat) 999 := ⟨(hQ.2.2 _ (by omega)).2, by omega, by omega⟩
          rw [if_pos j2, i2, if_pos (inb_ok (by omega) (by omega)), e3]
          unfold goneI
          rw [if_pos hf]
          by_cases d : r12 ≤ (gMo_postStrong m (L (4 * i + 2)).toNat).toInt64
          · have d' := (h12.le rs.long).mp d
            rw [if_pos d, if_neg (by omega)]; exact ⟨_, rfl, rp.lit 0 1 rfl rfl⟩
          · have d' : ¬ _ := fun g => d ((h12.le rs.long).mpr g)
            rw [if_neg d, if_pos (by omega)]; exact ⟨_, rfl, rp.lit 1 1 rfl rfl⟩
        · rw [if_neg hf, if_pos rfl]
          unfold goneI
          rw [if_neg hf]
          exact ⟨_, rfl, rp.lit 0 1 rfl rfl⟩
      · rw [if_pos hin, if_pos hin, hix, upd_eq]
        refine zlet_ex fun z18 h18 => ?_
        have r18 := nb.add h9 (by decide)
        rw [← h18] at r18
        refine go _ ⟨r18.1, toInt_succ a2 (by omega), fun l hl => ?_⟩
        show (upd f i w9 l).toInt = _
        by_cases e : l = i
        · subst e; rw [upd_eq]; exact h9.1
        · rw [upd_ne _ _ e]; exact a3 l (by omega)
    · rintro ⟨n, j, f⟩ ih ⟨a1, a2, a3⟩
      have a2 : j.toInt = 6 := a2
      have j6 : (6 : Int32) ≤ j := by rw [Int32.le_iff_toInt_le, a2]; decide
      simp only [fB_Mo_partLines_4]
      rw [if_pos j6]
      exact ⟨_, rfl, a1, a3⟩
  refine bind_ex' one (fun q2 h2 => ?_)
  have two : ∃ e, lp (fB_Mo_partLines_71 q2) LF (0, gMo_lines m) = some e ∧ mL e.2 (restI q px ps s L) := by
    refine lp_inv (N := 6) (I := fun i t => t.1.toInt = (i : Int) ∧ ∀ k, k < 24 → (t.2 k).toInt = if k < 4 * i then restI q px ps s L k else L k) (by decide) ?_ ?_ (i := 0) (by decide) ⟨rfl, fun k hk => by rw [if_neg (by omega)]; exact hl k hk⟩
    · rintro i hi ⟨j, g⟩ ih ⟨a1, a2⟩ go
      have a1 : j.toInt = (i : Int) := a1
      have a2 : ∀ k, k < 24 → (g k).toInt = if k < 4 * i then restI q px ps s L k else L k := a2
      have j6 : ¬ (6 : Int32) ≤ j := by rw [Int32.le_iff_toInt_le, a1]; show ¬ (6 : Int) ≤ _; omega
      have hin : inb j 6 = true := inb_ok (by omega) (by omega)
      have hix : ix j = i := ix_eq a1
      obtain ⟨i4, j4⟩ := ix4 a1 hi
      have h2i := h2.2 i hi
      simp only [fB_Mo_partLines_71]
      rw [if_neg j6, if_pos hin, hix, i4]
      have g4 : (g (4 * i)).toInt = L (4 * i) := by rw [a2 _ (by omega), if_neg (by omega)]
      refine bind_ex' (P := fun (x : Int32) => x.toInt = restI q px ps s L (4 * i)) ?_ (fun w26 h26 => ?_)
      · by_cases d : q2.2.2 i = 1
        · rw [if_pos d]
          have hg : goneI q px ps s L i = 1 := by rw [← h2i, d]; rfl
          refine ⟨_, rfl, ?_⟩
          unfold restI
          rw [Nat.mul_div_cancel_left i (by decide), if_pos ⟨by omega, hg⟩]; rfl
        · rw [if_neg d, if_pos j4]
          have hg : ¬ goneI q px ps s L i = 1 := fun h => d (Int32.toInt_inj.mp (by rw [h2i, h]; rfl))
          refine ⟨_, rfl, ?_⟩
          unfold restI
          rw [Nat.mul_div_cancel_left i (by decide), if_neg (by omega)]; exact g4
      · rw [if_pos j4]
        refine go _ ⟨toInt_succ a1 (by omega), fun k hk => ?_⟩
        show (upd g (4 * i) w26 k).toInt = _
        by_cases e : k = 4 * i
        · subst e; rw [upd_eq, if_pos (by omega)]; exact h26
        · rw [upd_ne _ _ e, a2 k hk]
          by_cases e2 : k < 4 * i
          · rw [if_pos e2, if_pos (by omega)]
          · rw [if_neg e2]
            by_cases e3 : k < 4 * (i + 1)
            · rw [if_pos e3]; unfold restI; rw [if_neg (by omega)]
            · rw [if_neg e3]
    · rintro ⟨j, g⟩ ih ⟨a1, a2⟩
      have a1 : j.toInt = 6 := a1
      have j6 : (6 : Int32) ≤ j := by rw [Int32.le_iff_toInt_le, a1]; decide
      simp only [fB_Mo_partLines_71]
      rw [if_pos j6]
      refine ⟨_, rfl, fun k hk => ?_⟩
      have := a2 k hk
      rw [if_pos hk] at this
      exact this
  refine bind_ex' two (fun q20 h20 => ?_)
  exact ⟨_, rfl, h2.1, h20⟩
end
