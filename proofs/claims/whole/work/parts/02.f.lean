/-! LOOPS WITH FUEL, AND HOW A FUNCTION'S TEXT IS READ -/
def lp {S E : Type} (B : (S → Option E) → S → Option E) : Nat → S → Option E
  | 0 => fun _ => none
  | n + 1 => B (lp B n)
theorem lp_zero {S E : Type} (B : (S → Option E) → S → Option E) (s : S) : lp B 0 s = none := rfl
theorem lp_succ {S E : Type} (B : (S → Option E) → S → Option E) (n : Nat) (s : S) : lp B (n + 1) s = B (lp B n) s := rfl
noncomputable def LF : Nat := Classical.choose (⟨2 ^ 40, Nat.le_refl _⟩ : ∃ n : Nat, 2 ^ 40 ≤ n)
theorem LF_ge : 2 ^ 40 ≤ LF := Classical.choose_spec (⟨2 ^ 40, Nat.le_refl _⟩ : ∃ n : Nat, 2 ^ 40 ≤ n)
theorem zbind {α β : Type} {o : Option α} {k : α → Option β} {b : β} (h : Option.bind o k = some b) : ∃ a, o = some a ∧ k a = some b := Option.bind_eq_some_iff.mp h
def zlet {α β : Type} (a : α) (k : α → β) : β := k a
theorem zlet_of {α β : Type} {a : α} {k : α → β} {b : β} (h : zlet a k = b) : ∃ v, a = v ∧ k v = b := ⟨a, rfl, h⟩
def inb (i : Int32) (n : Nat) : Bool := decide (¬ (i < 0 ∨ n ≤ ix i))
theorem inb_in {i : Int32} {n : Nat} (h : inb i n = true) : vp_in i n := of_decide_eq_true (p := ¬ (i < 0 ∨ n ≤ ix i)) h
theorem zchk {α : Type} {c : Prop} [Decidable c] {a : Option α} {b : α} (h : (if c then a else none) = some b) : c ∧ a = some b := by
  by_cases hc : c
  · rw [if_pos hc] at h; exact ⟨hc, h⟩
  · rw [if_neg hc] at h; cases h
theorem zdv {α : Type} {c : Prop} [Decidable c] {a : Option α} {b : α} (h : (if c then none else a) = some b) : ¬ c ∧ a = some b := by
  by_cases hc : c
  · rw [if_pos hc] at h; cases h
  · rw [if_neg hc] at h; exact ⟨hc, h⟩
section
variable {x : zFx} {rm : Room} {cc : ByteArray} {own : String} {nL ca sl pc tgt len : Nat} {ws : va_W} {lv : List (Nat × Value)} {st : List Value}
theorem r_tabIn (C : zC x cc own nL rm) {dflt lo hi : Int} {offs : Array Int} {u v : Int32} (hd : decode cc pc = .ok (.tableswitch dflt lo hi offs, len)) (hu : u = v) (off : Int) (tgt : Nat) (hk : (¬ v.toInt < lo ∧ ¬ hi < v.toInt) ∧ offs[(v.toInt - lo).toNat]? = some off ∧ (pc : Int) + off = (tgt : Int)) (kk : vV x nL ca sl ws tgt lv st) : vV x nL ca sl ws pc lv (.int u :: st) := by
  subst hu
  exact fun H locs ls hP hD hS h => lv_tableIn C.ex C.b hd hk.1.1 hk.1.2 hk.2.1 hk.2.2 (kk H locs ls hP hD hS h)
theorem r_tabOut (C : zC x cc own nL rm) {dflt lo hi : Int} {offs : Array Int} {u : Int32} (hd : decode cc pc = .ok (.tableswitch dflt lo hi offs, len)) (hu : ∀ i : Int, lo ≤ i → i ≤ hi → ¬ u = Int32.ofInt i) (tgt : Nat) (hk : (pc : Int) + dflt = (tgt : Int)) (kk : vV x nL ca sl ws tgt lv st) : vV x nL ca sl ws pc lv (.int u :: st) := by
  have h : u.toInt < lo ∨ hi < u.toInt := by
    rcases Int.lt_or_le u.toInt lo with h | h
    · exact Or.inl h
    · rcases Int.lt_or_le hi u.toInt with h2 | h2
      · exact Or.inr h2
      · exact absurd (Int32.ofInt_toInt u).symm (hu u.toInt h h2)
  exact fun H locs ls hP hD hS hl => lv_tableOut C.ex C.b hd h hk (kk H locs ls hP hD hS hl)
theorem r_lookIn (C : zC x cc own nL rm) {dflt : Int} {ps : Array (Int × Int)} {u v : Int32} (hd : decode cc pc = .ok (.lookupswitch dflt ps, len)) (hu : u = v) (off : Int) (tgt : Nat) (hk : (ps.toList.zip (ps.toList.drop 1)).all (fun (a, next) => a.1 < next.1) = true ∧ Op.lookupswitch.offset ps.toList dflt v.toInt = off ∧ (pc : Int) + off = (tgt : Int)) (kk : vV x nL ca sl ws tgt lv st) : vV x nL ca sl ws pc lv (.int u :: st) := by
  subst hu
  exact fun H locs ls hP hD hS h => lv_lookup C.ex C.b hd hk.1 hk.2.1 hk.2.2 (kk H locs ls hP hD hS h)
theorem r_lookOut (C : zC x cc own nL rm) {dflt : Int} {ps : Array (Int × Int)} {u : Int32} (hd : decode cc pc = .ok (.lookupswitch dflt ps, len)) (hs : (ps.toList.zip (ps.toList.drop 1)).all (fun (a, next) => a.1 < next.1) = true) (ho : Op.lookupswitch.offset ps.toList dflt u.toInt = dflt) (tgt : Nat) (hk : (pc : Int) + dflt = (tgt : Int)) (kk : vV x nL ca sl ws tgt lv st) : vV x nL ca sl ws pc lv (.int u :: st) :=
  fun H locs ls hP hD hS h => lv_lookup C.ex C.b hd hs ho hk (kk H locs ls hP hD hS h)
theorem r_aald (C : zC x cc own nL rm) {pc' a n : Nat} {f : Nat → Option Nat} {i v : Int32} (hd : zd 1 cc pc pc' .aaload) (q0 : Nat) (hu : i = v) (j : Nat) (hj : ¬ v < 0 ∧ ix v = j) (ha : ws[q0]? = some (a, .inl ((z_g x).2.1.2.2.2, n, .inr (.inr (.inr (.inr f)))))) (b : Nat) (hb : (f j = some b ∧ j < n)) (kk : vV x nL ca sl ws pc' lv (.ref b :: st)) : vV x nL ca sl ws pc lv (.int i :: .ref a :: st) := by
  obtain ⟨hd, rfl⟩ := hd
  subst hu
  obtain ⟨h1, rfl⟩ := hj
  exact fun H locs ls hP hD hS h => va_aldq C.ex C.b C.K hP q0 3 ha rfl (fun h => h.elim h1 (fun h => absurd hb.2 (Nat.not_lt.mpr h))) hd (by rw [hb.1]; exact kk H locs ls hP hD hS h)
theorem r_nami {u v : Int32} (h : u = v) (kk : vV x nL ca sl ws pc lv (.int v :: st)) : vV x nL ca sl ws pc lv (.int u :: st) := h ▸ kk
theorem r_naml {u v : Int64} (h : u = v) (kk : vV x nL ca sl ws pc lv (.long v :: st)) : vV x nL ca sl ws pc lv (.long u :: st) := h ▸ kk
end
