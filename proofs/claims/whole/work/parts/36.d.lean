/-! THE PURE SIDE 40: numbers of a text, the class -/
def loT (c i : Nat) : Int := (zT_LEAST.getD (3 * c + i) 0).toInt
def hiT (c i : Nat) : Int := (zT_MOST.getD (3 * c + i) 0).toInt
def cLo (c i : Nat) (x : Int) : Int := if c = 0 ∧ i = 1 then x + 1 else loT c i
theorem tab_ix : ∀ c : Fin 11, ∀ i : Fin 3, ix (Int32.ofNat c.val * 3 + Int32.ofNat i.val) = 3 * c.val + i.val ∧ inb (Int32.ofNat c.val * 3 + Int32.ofNat i.val) 33 = true := by decide +kernel
theorem tab_b : ∀ c : Fin 11, ∀ i : Fin 3, 0 ≤ loT c.val i.val ∧ loT c.val i.val ≤ 500 ∧ 0 ≤ hiT c.val i.val ∧ hiT c.val i.val ≤ 9999 := by decide +kernel
theorem ofN_eq {a b : Nat} (ha : a < 1000) (hb : b < 1000) : Int32.ofNat a = Int32.ofNat b ↔ a = b := by
  constructor
  · intro h
    have := congrArg Int32.toInt h
    rw [Int32.toInt_ofNat_of_lt (by omega), Int32.toInt_ofNat_of_lt (by omega)] at this; omega
  · intro h; rw [h]
section
variable {n k : Nat} {T : Nat → Int} {w : tTe}
theorem c_out {v : tRe} {c i : Nat} (hc : c < 11) (hi : i < 3) {x : Int} (hx : c = 0 → i = 1 → (gRe_row v 0).toInt = x ∧ 0 ≤ x ∧ x ≤ 9999) {p : Int32} {V : Int} (hp : rp p V 9999) : ∃ r, f_Re_isOutOfBounds v (Int32.ofNat c) (Int32.ofNat i) p = some r ∧ okI (¬ (cLo c i x ≤ V ∧ V ≤ hiT c i)) r := by
  obtain ⟨t1, t2⟩ := tab_ix ⟨c, hc⟩ ⟨i, hi⟩
  obtain ⟨b1, b2, b3, b4⟩ := tab_b ⟨c, hc⟩ ⟨i, hi⟩
  have b1 : 0 ≤ loT c i := b1
  have b2 : loT c i ≤ 500 := b2
  have b3 : 0 ≤ hiT c i := b3
  have b4 : hiT c i ≤ 9999 := b4
  have rl : rp (zT_LEAST.getD (3 * c + i) 0) (loT c i) 500 := ⟨rfl, by omega, by omega⟩
  have rh : rp (zT_MOST.getD (3 * c + i) 0) (hiT c i) 9999 := ⟨rfl, by omega, by omega⟩
  have z01 : loT 0 1 = 0 := by decide +kernel
  have e0 : Int32.ofNat c = 0 ↔ c = 0 := ofN_eq (b := 0) (by omega) (by decide)
  have e1 : Int32.ofNat i = 1 ↔ i = 1 := ofN_eq (b := 1) (by omega) (by decide)
  unfold f_Re_isOutOfBounds cLo
  refine zlet_ex fun z1 h1 => ?_
  have h2 : ix z1 = 3 * c + i := by rw [h1]; exact t1
  have h3 : inb z1 33 = true := by rw [h1]; exact t2
  rw [if_pos h3, h2]
  by_cases c1 : p < zT_LEAST.getD (3 * c + i) 0
  · have c1' := (hp.lt rl).mp c1
    rw [if_pos c1]
    refine ⟨_, rfl, Or.inl ⟨fun g => ?_, rfl⟩⟩
    by_cases y : c = 0 ∧ i = 1
    · obtain ⟨y1, y2⟩ := y
      have q := hx y1 y2
      rw [if_pos ⟨y1, y2⟩] at g
      subst y1; subst y2
      rw [z01] at c1'; omega
    · rw [if_neg y] at g; omega
  · have c1' : ¬ _ := fun g => c1 ((hp.lt rl).mpr g)
    rw [if_neg c1, if_pos h3]
    by_cases c2 : zT_MOST.getD (3 * c + i) 0 < p
    · have c2' := (rh.lt hp).mp c2
      rw [if_pos c2]
      exact ⟨_, rfl, Or.inl ⟨fun g => by omega, rfl⟩⟩
    · have c2' : ¬ _ := fun g => c2 ((rh.lt hp).mpr g)
      rw [if_neg c2]
      by_cases y1 : c = 0
      · rw [if_pos (e0.mpr y1)]
        by_cases y2 : i = 1
        · rw [if_pos (e1.mpr y2), if_pos (show c = 0 ∧ i = 1 from ⟨y1, y2⟩)]
          obtain ⟨q1, q2, q3⟩ := hx y1 y2
          have rr := rp.of 9999 q1 (by omega) (by omega)
          by_cases c3 : gRe_row v 0 < p
          · have c3' := (rr.lt hp).mp c3
            rw [if_pos c3]
            exact ⟨_, rfl, Or.inr ⟨fun g => g ⟨by omega, by omega⟩, rfl⟩⟩
          · have c3' : ¬ _ := fun g => c3 ((rr.lt hp).mpr g)
            rw [if_neg c3]
            exact ⟨_, rfl, Or.inl ⟨fun g => by omega, rfl⟩⟩
        · rw [if_neg (show ¬ Int32.ofNat i = 1 from fun g => y2 (e1.mp g)), if_neg (show ¬ (c = 0 ∧ i = 1) from fun g => y2 g.2)]
          exact ⟨_, rfl, Or.inr ⟨fun g => g ⟨by omega, by omega⟩, rfl⟩⟩
      · rw [if_neg (show ¬ Int32.ofNat c = 0 from fun g => y1 (e0.mp g)), if_neg (show ¬ (c = 0 ∧ i = 1) from fun g => y1 g.1)]
        exact ⟨_, rfl, Or.inr ⟨fun g => g ⟨by omega, by omega⟩, rfl⟩⟩
theorem c_hasPostAt {u : tQu} {np : Nat} {px : Nat → Int} (h12 : np ≤ 12) (h1 : (gQu_ints u 13).toInt = (np : Int)) (h2 : ∀ k, k < np → (gQu_places u k).toInt = px k) {p : Int32} {V : Int} (hp : p.toInt = V) : ∃ r, f_Qu_hasPostAt u p = some r ∧ okI (∃ k, k < np ∧ px k = V) r := by
  unfold f_Qu_hasPostAt
  have loop : ∃ r, lp (fB_Qu_hasPostAt_2 u p) LF 0 = some r ∧ (match r with | Sum.inl x => x = 1 ∧ ∃ k, k < np ∧ px k = V | Sum.inr _ => ¬ ∃ k, k < np ∧ px k = V) := by
    refine lp_inv (N := np) (I := fun i t => t.toInt = (i : Int) ∧ ∀ k, k < i → ¬ px k = V) (by omega) ?_ ?_ (i := 0) (by omega) ⟨rfl, fun k h => absurd h (by omega)⟩
    · rintro i hi t ih ⟨a1, a2⟩ go
      have a1 : t.toInt = (i : Int) := a1
      have a2 : ∀ k, k < i → ¬ px k = V := a2
      have e := h2 i hi
      simp only [fB_Qu_hasPostAt_2]
      rw [if_neg (lt_lit a1 h1 hi), if_neg (lt_lit a1 (N := 12) rfl (by omega)), if_pos (inb_ok (by omega) (by omega)), ix_eq a1]
      by_cases d : gQu_places u i = p
      · rw [if_pos d]
        exact ⟨_, rfl, rfl, i, hi, by rw [← e, d, hp]⟩
      · rw [if_neg d]
        refine go _ ⟨toInt_succ a1 (by omega), fun k hk => ?_⟩
        by_cases z : k = i
        · subst z; exact fun x => d (Int32.toInt_inj.mp (by rw [e, x, hp]))
        · exact a2 k (by omega)
    · rintro t ih ⟨a1, a2⟩
      have a1 : t.toInt = (np : Int) := a1
      have a2 : ∀ k, k < np → ¬ px k = V := a2
      simp only [fB_Qu_hasPostAt_2]
      rw [if_pos (ge_lit a1 h1 (Nat.le_refl _))]
      exact ⟨_, rfl, fun ⟨k, x, y⟩ => a2 k x y⟩
  refine bind_ex' loop (fun q2 g2 => ?_)
  rcases q2 with x | x
  · exact ⟨_, rfl, Or.inl ⟨g2.2, g2.1⟩⟩
  · exact ⟨_, rfl, Or.inr ⟨g2, rfl⟩⟩
theorem c_isBehind {u : tPl} {pn : Nat} {S : Nat → Int} (h20 : pn ≤ 20) (h1 : (gPl_ints u 0).toInt = (pn : Int)) (h2 : ∀ k, k < pn → (gPl_seconds u k).toInt = S k) {p : Int32} {V : Int} (hp : p.toInt = V) : ∃ r, f_Pl_isBehind u p = some r ∧ okI (¬ (0 < pn ∧ V ≤ S (pn - 1))) r := by
  have rn := rp.of 20 h1 (by omega) (by omega)
  unfold f_Pl_isBehind
  by_cases d : pn = 0
  · rw [if_pos ((rn.lt (rp.lit 1 1 (a := 1) rfl rfl)).mpr (by omega))]
    exact ⟨_, rfl, Or.inl ⟨fun x => by omega, rfl⟩⟩
  · rw [if_neg (fun x => by have := (rn.lt (rp.lit 1 1 (a := 1) rfl rfl)).mp x; omega), if_neg (fun x => by have := ((rp.lit 20 20 (a := 20) rfl rfl).lt rn).mp x; omega)]
    have e : (gPl_ints u 0 - 1).toInt = ((pn - 1 : Nat) : Int) := by rw [(rn.sub (rp.lit 1 1 (a := 1) rfl rfl) (by decide)).1]; omega
    rw [if_pos (inb_ok (by omega) (by omega)), ix_eq e]
    have s := h2 (pn - 1) (by omega)
    by_cases c : p ≤ gPl_seconds u (pn - 1)
    · rw [if_pos c]
      rw [Int32.le_iff_toInt_le, hp, s] at c
      exact ⟨_, rfl, Or.inr ⟨fun x => x ⟨by omega, c⟩, rfl⟩⟩
    · rw [if_neg c]
      rw [Int32.le_iff_toInt_le, hp, s] at c
      exact ⟨_, rfl, Or.inl ⟨fun x => c x.2, rfl⟩⟩
/-- taken already, by the drafts -/
def takP (c np : Nat) (px : Nat → Int) (pn : Nat) (S : Nat → Int) (V : Int) : Prop := (c = 1 ∧ ∃ k, k < np ∧ px k = V) ∨ (c = 9 ∧ 0 < pn ∧ V ≤ S (pn - 1))
theorem c_taken {v : tRe} {c np pn : Nat} {px S : Nat → Int} (hc : c < 11) (h12 : np ≤ 12) (h1 : (gQu_ints (gRe_quayDraft v) 13).toInt = (np : Int)) (h2 : ∀ k, k < np → (gQu_places (gRe_quayDraft v) k).toInt = px k) (h20 : pn ≤ 20) (h3 : (gPl_ints (gRe_planDraft v) 0).toInt = (pn : Int)) (h4 : ∀ k, k < pn → (gPl_seconds (gRe_planDraft v) k).toInt = S k) {p : Int32} {V : Int} (hp : p.toInt = V) : ∃ r, f_Re_isTakenAlready v (Int32.ofNat c) p = some r ∧ okI (takP c np px pn S V) r := by
  have e1 : Int32.ofNat c = 1 ↔ c = 1 := ofN_eq (b := 1) (by omega) (by decide)
  have e9 : Int32.ofNat c = 9 ↔ c = 9 := ofN_eq (b := 9) (by omega) (by decide)
  unfold f_Re_isTakenAlready takP
  by_cases y1 : c = 1
  · rw [if_pos (e1.mpr y1)]
    refine bind_ex' (c_hasPostAt h12 h1 h2 hp) (fun r2 g2 => ?_)
    rcases g2 with ⟨g, e⟩ | ⟨g, e⟩
    · rw [e, if_neg (show ¬ (1 : Int32) = 0 by decide)]
      exact ⟨_, rfl, Or.inl ⟨Or.inl ⟨y1, g⟩, rfl⟩⟩
    · rw [e, if_pos rfl, if_neg (fun x => by have := e9.mp x; omega)]
      exact ⟨_, rfl, Or.inr ⟨fun x => by rcases x with x | x
                                         · exact g x.2
                                         · omega, rfl⟩⟩
  · rw [if_neg (fun x => y1 (e1.mp x))]
    by_cases y9 : c = 9
    · rw [if_pos (e9.mpr y9)]
      refine bind_ex' (c_isBehind h20 h3 h4 hp) (fun r2 g2 => ?_)
      rcases g2 with ⟨g, e⟩ | ⟨g, e⟩
      · rw [e, if_neg (show ¬ (1 : Int32) = 0 by decide)]
        exact ⟨_, rfl, Or.inr ⟨fun x => by rcases x with x | x
                                           · exact y1 x.1
                                           · exact g x.2, rfl⟩⟩
      · rw [e, if_pos rfl]
        exact ⟨_, rfl, Or.inl ⟨Or.inr ⟨y9, Classical.byContradiction g⟩, rfl⟩⟩
    · rw [if_neg (fun x => y9 (e9.mp x))]
      exact ⟨_, rfl, Or.inr ⟨fun x => by rcases x with x | x
                                         · exact y1 x.1
                                         · exact y9 x.1, rfl⟩⟩
end
