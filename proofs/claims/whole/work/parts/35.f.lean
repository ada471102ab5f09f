/-! THE PURE SIDE 35: letting go, side by side -/
def pcN (S : Nat) : Nat → Nat
  | 0 => 0
  | k + 1 => pcN S k + (if S.testBit k = true then 1 else 0)
theorem pcN_s (S k : Nat) : pcN S (k + 1) = pcN S k + (if S.testBit k = true then 1 else 0) := rfl
theorem pcN_le (S k : Nat) : pcN S k ≤ k := by
  induction k with
  | zero => exact Nat.le_refl _
  | succ k ih => rw [pcN_s]; split <;> omega
theorem os_pcN : ∀ S : Fin 64, pcN S.val 24 = pcS S.val := by decide +kernel
theorem os_tb : ∀ S : Fin 64, ∀ k : Fin 24, tb (Int32.ofNat S.val) k.val = S.val.testBit k.val := by decide +kernel
section
variable {q px ps s L F : Nat → Int} {c : Int} {m : tMo}
theorem m_bits2 {S : Nat} (hS : S < 64) : ∃ r, f_Mo_bits (Int32.ofNat S) = some r ∧ r.toInt = (pcS S : Int) := by
  unfold f_Mo_bits
  have loop : ∃ e, lp (fB_Mo_bits_4 (Int32.ofNat S)) LF (0, 0) = some e ∧ e.1.toInt = (pcS S : Int) := by
    refine lp_inv (N := 24) (I := fun i t => t.2.toInt = (i : Int) ∧ t.1.toInt = (pcN S i : Int)) (by decide) ?_ ?_ (i := 0) (by decide) ⟨rfl, rfl⟩
    · rintro i hi ⟨a, j⟩ ih ⟨a1, a2⟩ go
      have a1 : j.toInt = (i : Int) := a1
      have a2 : a.toInt = (pcN S i : Int) := a2
      have cl := pcN_le S i
      have ej : j = Int32.ofNat i := lit_of a1 (by omega)
      have ps := pcN_s S i
      have et : tb (Int32.ofNat S) i = S.testBit i := os_tb ⟨S, hS⟩ ⟨i, hi⟩
      simp only [fB_Mo_bits_4]
      rw [if_neg (lt_lit a1 (N := 24) rfl hi), ej, bit_eq _ hi, et]
      refine zlet_ex fun z7 h7 => ?_
      have ra : rp a (pcN S i : Int) 24 := ⟨a2, by omega, by omega⟩
      refine go _ ⟨by rw [← ej]; exact toInt_succ a1 (by omega), ?_⟩
      show z7.toInt = _
      rw [h7]
      by_cases b : S.testBit i = true
      · rw [if_pos b] at ps ⊢
        rw [(ra.add (rp.lit 1 1 (a := 1) rfl rfl) (by decide)).1, ps]; omega
      · rw [if_neg b] at ps ⊢
        rw [(ra.add (rp.lit 0 0 (a := 0) rfl rfl) (by decide)).1, ps]; omega
    · rintro ⟨a, j⟩ ih ⟨a1, a2⟩
      have a1 : j.toInt = ((24 : Nat) : Int) := a1
      have a2 : a.toInt = (pcN S 24 : Int) := a2
      have e : pcN S 24 = pcS S := os_pcN ⟨S, hS⟩
      simp only [fB_Mo_bits_4]
      rw [if_pos (ge_lit a1 (N := 24) rfl (by omega))]
      exact ⟨_, rfl, by rw [← e]; exact a2⟩
  exact bind_ex' loop (fun q2 h2 => ⟨_, rfl, h2⟩)
theorem m_after {f : Nat → Int64} {S : Nat} (hS : S < 64) (hF : ∀ l, l < 6 → inS S l = true → (f (remS S l)).toInt = F (remS S l) ∧ 0 ≤ F (remS S l) ∧ F (remS S l) ≤ 9801000) : ∃ e, lp (fB_Mo_order_72 (Int32.ofNat S, f)) LF (-1, 0) = some e ∧ e.1.toInt = afterI F S 6 := by
  refine lp_inv (N := 6) (I := fun i t => t.2.toInt = (i : Int) ∧ t.1.toInt = afterI F S i) (by decide) ?_ ?_ (i := 0) (by decide) ⟨rfl, rfl⟩
  · rintro i hi ⟨a, j⟩ ih ⟨a1, a2⟩ go
    have a1 : j.toInt = (i : Int) := a1
    have a2 : a.toInt = afterI F S i := a2
    have ab := afterI_b (f := F) (S := S) (fun l hl hi => (hF l hl hi).2) i (by omega)
    have ej : j = Int32.ofNat i := lit_of a1 (by omega)
    have af : afterI F S (i + 1) = if inS S i = true ∧ (afterI F S i = -1 ∨ F (remS S i) < afterI F S i) then F (remS S i) else afterI F S i := rfl
    have ebit : ((Int32.ofNat S >>> (j &&& 31)) &&& 1) = if inS S i = true then 1 else 0 := by rw [ej]; exact os_bit ⟨S, hS⟩ ⟨i, hi⟩
    have erm : (Int32.ofNat S &&& ((1 <<< (j &&& 31)) ^^^ (-1))) = Int32.ofNat (remS S i) := by rw [ej]; exact os_rem ⟨S, hS⟩ ⟨i, hi⟩
    have hlt : remS S i < 64 := (os_remlt ⟨S, hS⟩ ⟨i, hi⟩).1
    have eix : ix (Int32.ofNat (remS S i)) = remS S i := ix_eq (Int32.toInt_ofNat_of_lt (by omega))
    have hin : inb (Int32.ofNat (remS S i)) 64 = true := inb_ok (by rw [Int32.toInt_ofNat_of_lt (by omega)]; omega) (by rw [Int32.toInt_ofNat_of_lt (by omega)]; omega)
    have ra : rq a (afterI F S i) 9801000 := ⟨a2, by omega, by omega⟩
    have z0 := rq.lit 0 0 (a := (0 : Int64)) rfl rfl
    simp only [fB_Mo_order_72, erm, if_pos hin, eix]
    rw [if_neg (lt_lit a1 (N := 6) rfl hi), ebit]
    by_cases g : inS S i = true
    · obtain ⟨f1, f2, f3⟩ := hF i hi g
      have rf := rq.of 9801000 f1 (by omega) (by omega)
      rw [if_pos (show (if inS S i = true then (1 : Int32) else 0) = 1 by rw [if_pos g]), Option.bind_some, if_neg (fun x => by have := (rf.lt z0).mp x; omega)]
      by_cases d : a < 0
      · have d' := (ra.lt z0).mp d
        rw [if_pos d]
        refine go _ ⟨toInt_succ a1 (by omega), ?_⟩
        show (f (remS S i)).toInt = _
        rw [af, if_pos ⟨g, Or.inl (by omega)⟩]; exact f1
      · have d' : ¬ _ := fun x => d ((ra.lt z0).mpr x)
        rw [if_neg d]
        by_cases e : a ≤ f (remS S i)
        · have e' := (ra.le rf).mp e
          rw [if_pos e]
          refine go _ ⟨toInt_succ a1 (by omega), ?_⟩
          show a.toInt = _
          rw [af, if_neg (fun x => by rcases x.2 with y | y <;> omega)]; exact a2
        · have e' : ¬ _ := fun x => e ((ra.le rf).mpr x)
          rw [if_neg e]
          refine go _ ⟨toInt_succ a1 (by omega), ?_⟩
          show (f (remS S i)).toInt = _
          rw [af, if_pos ⟨g, Or.inr (by omega)⟩]; exact f1
    · rw [if_neg (show ¬ (if inS S i = true then (1 : Int32) else 0) = 1 by rw [if_neg g]; decide), Option.bind_some, if_pos (show (-1 : Int64) < 0 by decide)]
      refine go _ ⟨toInt_succ a1 (by omega), ?_⟩
      show a.toInt = _
      rw [af, if_neg (fun x => g x.1)]; exact a2
  · rintro ⟨a, j⟩ ih ⟨a1, a2⟩
    have a1 : j.toInt = ((6 : Nat) : Int) := a1
    simp only [fB_Mo_order_72]
    rw [if_pos (ge_lit a1 (N := 6) rfl (by omega))]
    exact ⟨_, rfl, a2⟩
theorem m_worst (hQ : mQ (gMo_ints m) (gMo_told m) (gMo_postX m) (gMo_postStrong m) q px ps) (hB : QB q px ps) (hS : mS (gMo_ship m) s) (hR : RB c s) (hL : LB q L) (hl : mL (gMo_lines m) L) {A : Nat} (hA : A < 64) (sA : subF L A) {q2 : Int32 × Int32} (h1 : q2.1 = Int32.ofNat A) (g : Nat → Int64) : ∃ e, lp (fB_Mo_order_51 m q2) LF (1, vp_updL g 0 0) = some e ∧ ∀ S, S < 64 → S &&& A = S → (e.2 S).toInt = bestI q ps s L A 63 S := by
  have hAi : (Int32.ofNat A).toInt = (A : Int) := Int32.toInt_ofNat_of_lt (by omega)
  refine lp_inv (N := A) (I := fun i t => t.1.toInt = ((i + 1 : Nat) : Int) ∧ ∀ S, S < i + 1 → S &&& A = S → (t.2 S).toInt = bestI q ps s L A i S) (by omega) ?_ ?_ (i := 0) (by omega) ⟨rfl, fun S h _ => by
    have : S = 0 := by omega
    subst this
    show (vp_updL g 0 0 0).toInt = 0
    rw [updL_eq]; rfl⟩
  · rintro i hi ⟨j, f⟩ ih ⟨a1, a2⟩ go
    have a1 : j.toInt = ((i + 1 : Nat) : Int) := a1
    have a2 : ∀ S, S < i + 1 → S &&& A = S → (f S).toInt = bestI q ps s L A i S := a2
    have ej : j = Int32.ofNat (i + 1) := lit_of a1 (by omega)
    have hin : inb j 64 = true := inb_ok (by omega) (by omega)
    have sub := decide_eq_decide.mp (os_sub2 ⟨i + 1, by omega⟩ ⟨A, hA⟩)
    have bs := bestI_s q ps s L A i
    have c0 : ¬ q2.1 < j := by rw [h1, Int32.lt_iff_toInt_lt, hAi, a1]; omega
    simp only [fB_Mo_order_51, if_pos hin, ix_eq a1]
    rw [if_neg c0, h1, ej]
    by_cases d : (i + 1) &&& A = i + 1
    · have sf : subF L (i + 1) := fun l hl hi' => sA l hl (os_insub ⟨A, hA⟩ ⟨i + 1, by omega⟩ d ⟨l, hl⟩ hi')
      have bb := bestI_b hB hR hL hA sA i (by omega)
      rw [if_pos (sub.mpr d)]
      refine bind_ex' (m_after (F := bestI q ps s L A i) (S := i + 1) (by omega) (fun l hl hi' => ⟨?_, bb _⟩)) (fun q22 h22 => ?_)
      · have r := ((os_remlt ⟨i + 1, by omega⟩ ⟨l, hl⟩).2 hi').1
        exact a2 _ r (os_remsub ⟨A, hA⟩ ⟨i + 1, by omega⟩ d ⟨l, hl⟩)
      · refine bind_ex' (m_strain (m := (gMo_ints m, gMo_told m, gMo_postX m, gMo_postStrong m, gMo_atRow m, gMo_heights m, gMo_ship m, gMo_lines m, gMo_text m, gMo_said m, gMo_readTold m, gMo_readX m, gMo_readStrong m, gMo_readRow m, gMo_parting m, gMo_wasShip m, gMo_wasLines m, f, gMo_logRow m, gMo_images m, gMo_isKept m)) hQ hB hS hR hL hl (by omega) sf) (fun r34 h34 => ?_)
        refine zlet_ex fun z35 h35 => ?_
        have mb := mostI_b hB hR hL sf 6 (by decide)
        have ab := afterI_b (f := bestI q ps s L A i) (S := i + 1) (fun l _ _ => bb _) 6 (by decide)
        have k1 := rq.of 9801000 h34 (by omega) (by omega)
        have k2 := rq.of 9801000 h22 (by omega) (by omega)
        have k : z35.toInt = maxI (mostI q ps s L (i + 1) 6) (afterI (bestI q ps s L A i) (i + 1) 6) := by
          rw [h35]; unfold f_Mo_greater maxI
          by_cases x : r34 ≤ q22.1
          · have x' := (k1.le k2).mp x
            rw [if_pos x, h22]; split <;> omega
          · have x' : ¬ _ := fun y => x ((k1.le k2).mpr y)
            rw [if_neg x, h34]; split <;> omega
        refine go _ ⟨toInt_succ (ej ▸ a1) (by omega), fun S hS hs => ?_⟩
        show (vp_updL f (i + 1) z35 S).toInt = _
        rw [bs, if_pos d]
        by_cases e : S = i + 1
        · subst e
          rw [updL_eq, us_eq]; exact k
        · rw [updL_ne _ _ e, us_ne _ _ e]; exact a2 S (by omega) hs
    · rw [if_neg (fun x => d (sub.mp x))]
      refine go _ ⟨toInt_succ (ej ▸ a1) (by omega), fun S hS hs => ?_⟩
      show (f S).toInt = _
      rw [bs, if_neg d]
      by_cases e : S = i + 1
      · subst e; exact absurd hs d
      · exact a2 S (by omega) hs
  · rintro ⟨j, f⟩ ih ⟨a1, a2⟩
    have a1 : j.toInt = ((A + 1 : Nat) : Int) := a1
    have a2 : ∀ S, S < A + 1 → S &&& A = S → (f S).toInt = bestI q ps s L A A S := a2
    have c0 : q2.1 < j := by rw [h1, Int32.lt_iff_toInt_lt, hAi, a1]; omega
    simp only [fB_Mo_order_51]
    rw [if_pos c0]
    refine ⟨_, rfl, fun S hS hs => ?_⟩
    have le : S ≤ A := os_le ⟨A, hA⟩ ⟨S, hS⟩ hs
    have e := bestI_end q ps s L hA (63 - A) (by omega)
    rw [show A + (63 - A) = 63 by omega] at e
    rw [e]; exact a2 S (by omega) hs
theorem m_next {A S : Nat} (hA : A < 64) (hS : S < 64) {q2 : Int32 × Int32} (h1 : q2.1 = Int32.ofNat A) {q15 : Int32 × (Nat → Int64)} (hFA : (q15.2 A).toInt = F A ∧ 0 ≤ F A ∧ F A ≤ 9801000) (hF : ∀ l, l < 6 → inS S l = true → (q15.2 (remS S l)).toInt = F (remS S l) ∧ 0 ≤ F (remS S l) ∧ F (remS S l) ≤ 9801000) (hex : ∃ l, l < 6 ∧ mayGo F A S l = true) (a b : Int32) : ∃ e, lp (fB_Mo_order_217 q2 q15 (Int32.ofNat S, a, b)) LF 0 = some e ∧ e = Int32.ofNat (nextS F A S) := by
  obtain ⟨n1, n2, n3⟩ := nextS_spec hex
  generalize nextS F A S = r at n1 n2 n3
  have aix : ix (Int32.ofNat A) = A := ix_eq (Int32.toInt_ofNat_of_lt (by omega))
  have ain : inb (Int32.ofNat A) 64 = true := inb_ok (by rw [Int32.toInt_ofNat_of_lt (by omega)]; omega) (by rw [Int32.toInt_ofNat_of_lt (by omega)]; omega)
  have facts : ∀ i : Nat, i < 6 → ∀ j : Int32, j.toInt = (i : Int) → ((Int32.ofNat S >>> (j &&& 31)) &&& 1) = (if inS S i = true then 1 else 0) ∧ (Int32.ofNat S &&& ((1 <<< (j &&& 31)) ^^^ (-1))) = Int32.ofNat (remS S i) ∧ ix (Int32.ofNat (remS S i)) = remS S i ∧ inb (Int32.ofNat (remS S i)) 64 = true := by
    intro i hi j a1
    have ej : j = Int32.ofNat i := lit_of a1 (by omega)
    have hlt : remS S i < 64 := (os_remlt ⟨S, hS⟩ ⟨i, hi⟩).1
    exact ⟨by rw [ej]; exact os_bit ⟨S, hS⟩ ⟨i, hi⟩, by rw [ej]; exact os_rem ⟨S, hS⟩ ⟨i, hi⟩, ix_eq (Int32.toInt_ofNat_of_lt (by omega)), inb_ok (by rw [Int32.toInt_ofNat_of_lt (by omega)]; omega) (by rw [Int32.toInt_ofNat_of_lt (by omega)]; omega)⟩
  refine lp_inv (N := r) (I := fun i t => t.toInt = (i : Int)) (by omega) ?_ ?_ (i := 0) (by omega) rfl
  · intro i hi j ih a1 go
    have a1 : j.toInt = (i : Int) := a1
    obtain ⟨e1, e2, e3, e4⟩ := facts i (by omega) j a1
    simp only [fB_Mo_order_217, e2, if_pos e4, e3, h1, if_pos ain, aix]
    rw [e1]
    by_cases g : inS S i = true
    · rw [if_neg (show ¬ (if inS S i = true then (1 : Int32) else 0) = 0 by rw [if_pos g]; decide)]
      have f := hF i (by omega) g
      have ng := n3 i hi
      have lt : F A < F (remS S i) := by
        rcases Int.lt_or_le (F A) (F (remS S i)) with x | x
        · exact x
        · exact absurd (by unfold mayGo; rw [g, decide_eq_true x]; rfl) ng
      rw [if_neg (fun x => by have := ((rq.of 9801000 f.1 (by omega) (by omega)).le (rq.of 9801000 hFA.1 (by omega) (by omega))).mp x; omega)]
      exact go _ (toInt_succ a1 (by omega))
    · rw [if_pos (show (if inS S i = true then (1 : Int32) else 0) = 0 by rw [if_neg g])]
      exact go _ (toInt_succ a1 (by omega))
  · intro j ih a1
    have a1 : j.toInt = (r : Int) := a1
    obtain ⟨e1, e2, e3, e4⟩ := facts r n1 j a1
    have g : inS S r = true := by unfold mayGo at n2; exact (Bool.and_eq_true _ _ ▸ n2).1
    have le : F (remS S r) ≤ F A := by unfold mayGo at n2; exact of_decide_eq_true (Bool.and_eq_true _ _ ▸ n2).2
    have f := hF r n1 g
    simp only [fB_Mo_order_217, e2, if_pos e4, e3, h1, if_pos ain, aix]
    rw [e1, if_neg (show ¬ (if inS S r = true then (1 : Int32) else 0) = 0 by rw [if_pos g]; decide), if_pos (((rq.of 9801000 f.1 (by omega) (by omega)).le (rq.of 9801000 hFA.1 (by omega) (by omega))).mpr le)]
    exact ⟨_, rfl, by rw [lit_of a1 (by omega)]⟩
theorem m_seq {A : Nat} (hA : A < 64) (hG : goodF q ps s L F A) {q2 : Int32 × Int32} (h1 : q2.1 = Int32.ofNat A) {q15 : Int32 × (Nat → Int64)} (hF : ∀ S, S < 64 → S &&& A = S → (q15.2 S).toInt = F S) {p : Int32} {k : Nat} (hk : p.toInt = (k : Int)) (hk6 : k < pcS A) : ∃ e, lp (fB_Mo_order_208 p q2 q15) LF (q2.1, -1, 0) = some e ∧ e.2.1 = Int32.ofNat (nextS F A (seqS F A k)) := by
  have p6 : pcS A ≤ 6 := (os_pc0 ⟨A, hA⟩).2.1
  refine lp_inv (N := k + 1) (I := fun i t => t.1 = Int32.ofNat (seqS F A i) ∧ t.2.2.toInt = (i : Int) ∧ ∀ j : Nat, i = j + 1 → t.2.1 = Int32.ofNat (nextS F A (seqS F A j))) (by omega) ?_ ?_ (i := 0) (by omega) ⟨h1, rfl, fun j h => absurd h (by omega)⟩
  · rintro i hi ⟨a, b, j⟩ ih ⟨a1, a2, a3⟩ go
    have a1 : a = Int32.ofNat (seqS F A i) := a1
    have a2 : j.toInt = (i : Int) := a2
    obtain ⟨b1, b2, b3, b4⟩ := seqS_ok hA hG i (by omega)
    have h0 : seqS F A i ≠ 0 := fun z => by rw [z] at b4; have : pcS 0 = 0 := by decide
                                            omega
    have ex := goodF_next hG b1 b2 h0 b3
    obtain ⟨n1, n2, n3⟩ := nextS_spec ex
    have c0 : ¬ p < j := by rw [Int32.lt_iff_toInt_lt, hk, a2]; omega
    simp only [fB_Mo_order_208]
    rw [if_neg c0, a1]
    refine bind_ex' (m_next (F := F) hA b1 h1 ⟨hF A hA (Nat.and_self A), hG.1 A⟩ (fun l hl hi => ⟨hF _ (os_remlt ⟨_, b1⟩ ⟨l, hl⟩).1 (os_remsub ⟨A, hA⟩ ⟨_, b1⟩ b2 ⟨l, hl⟩), hG.1 _⟩) ex b j) (fun q49 h49 => ?_)
    refine zlet_ex fun z57 h57 => ?_
    refine go _ ⟨?_, toInt_succ a2 (by omega), fun x hx => ?_⟩
    · show z57 = _
      rw [h57, h49]; exact os_rem ⟨_, b1⟩ ⟨_, n1⟩
    · have : x = i := by omega
      subst this; exact h49
  · rintro ⟨a, b, j⟩ ih ⟨a1, a2, a3⟩
    have a2 : j.toInt = ((k + 1 : Nat) : Int) := a2
    have c0 : p < j := by rw [Int32.lt_iff_toInt_lt, hk, a2]; omega
    simp only [fB_Mo_order_208]
    rw [if_pos c0]
    exact ⟨_, rfl, a3 k rfl⟩
end
