/-! THE PURE SIDE 33: letting go, the class weighs -/
section
variable {q px ps s L : Nat → Int} {c : Int}
theorem allS_s (L : Nat → Int) (k : Nat) : allS L (k + 1) = if L (4 * k) = 1 then allS L k ||| 2 ^ k else allS L k := rfl
theorem allS_sub (L : Nat → Int) : subF L (allS L 6) := fun l hl hi => by
  rw [allS_in L 6 (by decide) l hl] at hi
  exact of_decide_eq_true (Bool.and_eq_true _ _ ▸ hi).2
theorem c_weigh1 {w : tQu} {u : tSh} (hQ : cQ w q px ps) (hB : QB q px ps) (hS : cS (gSh_ints u) (gSh_harm u) s) (hR : RB c s) (hL : LB q L) (hl : cL (gLi_fast (gSh_lines u)) (gLi_place (gSh_lines u)) (gLi_post (gSh_lines u)) (gLi_length (gSh_lines u)) L) (f g h : Nat → Int32) : ∃ e, lp (fB_Lg_weigh_7 w u) LF (0, (upd f 3 0), g, h) = some e ∧ (e.2.1 3 = Int32.ofNat (allS L 6) ∧ ∀ l, l < 6 → L (4 * l) = 1 → (e.2.2.1 l).toInt = shareI q s L l ∧ (e.2.2.2 l).toInt = ps (L (4 * l + 2)).toNat) := by
  refine lp_inv (N := 6) (I := fun i t => t.1.toInt = (i : Int) ∧ t.2.1 3 = Int32.ofNat (allS L i) ∧ ∀ l, l < i → L (4 * l) = 1 → (t.2.2.1 l).toInt = shareI q s L l ∧ (t.2.2.2 l).toInt = ps (L (4 * l + 2)).toNat) (by decide) ?_ ?_ (i := 0) (by decide) ⟨rfl, (show upd f 3 0 3 = Int32.ofNat (allS L 0) by rw [upd_eq]; rfl), fun l h => absurd h (by omega)⟩
  · rintro i hi ⟨j, f, g, h⟩ ih ⟨a1, a2, a3⟩ go
    have a1 : j.toInt = (i : Int) := a1
    have a2 : f 3 = Int32.ofNat (allS L i) := a2
    have a3 : ∀ l, l < i → L (4 * l) = 1 → (g l).toInt = shareI q s L l ∧ (h l).toInt = ps (L (4 * l + 2)).toNat := a3
    have ej : j = Int32.ofNat i := lit_of a1 (by omega)
    have hin : inb j 6 = true := inb_ok (by omega) (by omega)
    simp only [fB_Lg_weigh_7, if_pos hin, ix_eq a1]
    rw [if_neg (lt_lit a1 (N := 6) rfl hi)]
    refine bind_ex' (c_isFast hL hl j).ex (fun r7 h7 => ?_)
    have alls := allS_s L i
    rcases h7 with ⟨f1, f2⟩ | ⟨f1, f2⟩
    · rw [f2, if_neg (show ¬ (1 : Int32) = 0 by decide)]
      obtain ⟨l, l6, l1, l2⟩ := f1
      have : l = i := by omega
      subst this
      obtain ⟨p1, p2, p3⟩ := (hl l hi).2 l2
      have lb := hL_of hL hi l2
      refine zlet_ex fun z10 h10 => ?_
      refine zlet_ex fun z12 h12 => ?_
      obtain ⟨e15, s1, s2⟩ := hQ.strength hB p2 (by omega) (by omega)
      rw [s1, Option.bind_some]
      have k10 : z10 = Int32.ofNat (allS L l ||| 2 ^ l) := by rw [h10, a2, ej]; exact os_or ⟨_, allS_lt L l (by omega)⟩ ⟨l, hi⟩
      have ko := c_off (v := u) (w := w) hS hR.1 (by decide) hQ hB (rp.of 100 p1 (by omega) (by omega))
      have k12 := (rp.lit 1 1 (a := 1) rfl rfl).add (ko.div (rp.lit 10 10 (a := 10) rfl rfl) (by decide)) (by decide)
      rw [← h12] at k12
      refine go _ ⟨toInt_succ a1 (by omega), ?_, fun k hk hf => ?_⟩
      · show upd f 3 z10 3 = _
        rw [upd_eq, k10, alls, if_pos l2]
      · show (upd g l z12 k).toInt = _ ∧ (upd h l e15 k).toInt = _
        by_cases e : k = l
        · subst e
          rw [upd_eq, upd_eq]; exact ⟨k12.1, s2.1⟩
        · rw [upd_ne _ _ e, upd_ne _ _ e]; exact a3 k (by omega) hf
    · rw [f2, if_pos rfl]
      have nf : ¬ L (4 * i) = 1 := fun x => f1 ⟨i, hi, a1, x⟩
      refine go _ ⟨toInt_succ a1 (by omega), ?_, fun k hk hf => ?_⟩
      · show f 3 = _
        rw [a2, alls, if_neg nf]
      · by_cases e : k = i
        · subst e; exact absurd hf nf
        · exact a3 k (by omega) hf
  · rintro ⟨j, f, g, h⟩ ih ⟨a1, a2, a3⟩
    have a1 : j.toInt = ((6 : Nat) : Int) := a1
    simp only [fB_Lg_weigh_7]
    rw [if_pos (ge_lit a1 (N := 6) rfl (by omega))]
    exact ⟨_, rfl, a2, a3⟩
theorem c_weigh2 {A : Nat} (hA : A < 64) (sA : subF L A) (hB : QB q px ps) (hR : RB c s) (hL : LB q L) {q2 : Int32 × (Nat → Int32) × (Nat → Int32) × (Nat → Int32)} (h1 : q2.2.1 3 = Int32.ofNat A) (h2 : ∀ l, l < 6 → L (4 * l) = 1 → (q2.2.2.1 l).toInt = shareI q s L l ∧ (q2.2.2.2 l).toInt = ps (L (4 * l + 2)).toNat) {b : Int32} (hb : b.toInt = blowI q) (g : Nat → Int32) : ∃ e, lp (fB_Lg_weigh_112 q2 b) LF (1, upd g 0 0) = some e ∧ ∀ S, S < 64 → S &&& A = S → (e.2 S).toInt = bestI q ps s L A 63 S := by
  refine lp_inv (N := 63) (I := fun i t => t.1.toInt = ((i + 1 : Nat) : Int) ∧ ∀ S, S < i + 1 → S &&& A = S → (t.2 S).toInt = bestI q ps s L A i S) (by decide) ?_ ?_ (i := 0) (by decide) ⟨rfl, fun S h _ => by
    have : S = 0 := by omega
    subst this
    show (upd g 0 0 0).toInt = 0
    rw [upd_eq]; rfl⟩
  · rintro i hi ⟨j, f⟩ ih ⟨a1, a2⟩ go
    have a1 : j.toInt = ((i + 1 : Nat) : Int) := a1
    have a2 : ∀ S, S < i + 1 → S &&& A = S → (f S).toInt = bestI q ps s L A i S := a2
    have ej : j = Int32.ofNat (i + 1) := lit_of a1 (by omega)
    have hin : inb j 64 = true := inb_ok (by omega) (by omega)
    have sub := decide_eq_decide.mp (os_sub ⟨i + 1, by omega⟩ ⟨A, hA⟩)
    have bs := bestI_s q ps s L A i
    simp only [fB_Lg_weigh_112, if_pos hin, ix_eq a1, h1]
    rw [if_neg (lt_lit a1 (N := 64) rfl (by omega)), ej]
    by_cases d : (i + 1) &&& A = i + 1
    · have sf : subF L (i + 1) := fun l hl hi' => sA l hl (os_insub ⟨A, hA⟩ ⟨i + 1, by omega⟩ d ⟨l, hl⟩ hi')
      rw [if_pos (sub.mpr d)]
      refine bind_ex' (c_strain (v := (q2.2.1, q2.2.2.1, q2.2.2.2, f)) hB hR hL (fun l hl hf => (h2 l hl hf).1) (fun l hl hf => (h2 l hl hf).2) (by omega) sf hb) (fun r25 h25 => ?_)
      have bb := bestI_b hB hR hL hA sA i (by omega)
      refine bind_ex' (c_after (v := (q2.2.1, q2.2.2.1, q2.2.2.2, f)) (F := bestI q ps s L A i) (S := i + 1) (by omega) (fun l hl hi' => ⟨?_, bb _⟩)) (fun r26 h26 => ?_)
      · have r := ((os_remlt ⟨i + 1, by omega⟩ ⟨l, hl⟩).2 hi').1
        exact a2 _ r (os_remsub ⟨A, hA⟩ ⟨i + 1, by omega⟩ d ⟨l, hl⟩)
      · refine zlet_ex fun z27 h27 => ?_
        have mb := mostI_b hB hR hL sf 6 (by decide)
        have ab := afterI_b (f := bestI q ps s L A i) (S := i + 1) (fun l _ _ => bb _) 6 (by decide)
        have k := (rp.of 9801000 h25 (by omega) (by omega)).max (rp.of 9801000 h26 (by omega) (by omega))
        rw [← h27] at k
        refine go _ ⟨toInt_succ (ej ▸ a1) (by omega), fun S hS hs => ?_⟩
        show (upd f (i + 1) z27 S).toInt = _
        rw [bs, if_pos d]
        by_cases e : S = i + 1
        · subst e
          rw [upd_eq, us_eq]; exact k.1
        · rw [upd_ne _ _ e, us_ne _ _ e]; exact a2 S (by omega) hs
    · rw [if_neg (fun x => d (sub.mp x))]
      refine go _ ⟨toInt_succ (ej ▸ a1) (by omega), fun S hS hs => ?_⟩
      show (f S).toInt = _
      rw [bs, if_neg d]
      by_cases e : S = i + 1
      · subst e; exact absurd hs d
      · exact a2 S (by omega) hs
  · rintro ⟨j, f⟩ ih ⟨a1, a2⟩
    have a1 : j.toInt = ((63 + 1 : Nat) : Int) := a1
    simp only [fB_Lg_weigh_112]
    rw [if_pos (ge_lit a1 (N := 64) rfl (by omega))]
    exact ⟨_, rfl, a2⟩
theorem c_weigh (v : tLg) {w : tQu} {u : tSh} (hQ : cQ w q px ps) (hB : QB q px ps) (hS : cS (gSh_ints u) (gSh_harm u) s) (hR : RB c s) (hL : LB q L) (hl : cL (gLi_fast (gSh_lines u)) (gLi_place (gSh_lines u)) (gLi_post (gSh_lines u)) (gLi_length (gSh_lines u)) L) : ∃ r, f_Lg_weigh v w u = some r ∧ (r.1 3 = Int32.ofNat (allS L 6) ∧ ∀ S, S < 64 → S &&& allS L 6 = S → (r.2.2.2 S).toInt = bestI q ps s L (allS L 6) 63 S) := by
  unfold f_Lg_weigh
  refine bind_ex' (c_weigh1 hQ hB hS hR hL hl _ _ _) (fun q2 h2 => ?_)
  refine zlet_ex fun z17 h17 => ?_
  have hb : z17.toInt = blowI q := by
    have b10 := hB.2.2.2.2.2.2.2.2.2.1
    have b3 := hB.2.2.1
    have k := ((rp.of 99 (hQ.1 10 (by decide)) (by omega) (by omega)).mul (rp.of 99 (hQ.1 3 (by decide)) (by omega) (by omega)) (by decide)).mul (rp.lit 10 10 (a := 10) rfl rfl) (by decide)
    rw [← h17] at k
    exact k.1
  exact bind_ex' (c_weigh2 (allS_lt L 6 (by decide)) (allS_sub L) hB hR hL h2.1 h2.2 hb _) (fun q19 h19 => ⟨_, rfl, h2.1, h19⟩)
end
