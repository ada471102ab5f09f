/-! THE PURE SIDE 1: whole numbers behind Int32 and Int64 -/
/-- a stands for x, and x is no more than B without sign -/
def rp (a : Int32) (x : Int) (B : Nat) : Prop := a.toInt = x ∧ -(B : Int) ≤ x ∧ x ≤ (B : Int)
def rq (a : Int64) (x : Int) (B : Nat) : Prop := a.toInt = x ∧ -(B : Int) ≤ x ∧ x ≤ (B : Int)
theorem zbm32 {x : Int} (h1 : -2147483648 ≤ x) (h2 : x ≤ 2147483647) : x.bmod (2 ^ 32) = x := Int.bmod_eq_of_le (by omega) (by omega)
theorem zbm64 {x : Int} (h1 : -9223372036854775808 ≤ x) (h2 : x ≤ 9223372036854775807) : x.bmod (2 ^ 64) = x := Int.bmod_eq_of_le (by omega) (by omega)
theorem zmulb {x y : Int} {A B : Nat} (h1 : -(A : Int) ≤ x) (h2 : x ≤ A) (h3 : -(B : Int) ≤ y) (h4 : y ≤ B) : -((A * B : Nat) : Int) ≤ x * y ∧ x * y ≤ ((A * B : Nat) : Int) := by
  have e := Int.natAbs_mul x y
  have ha : x.natAbs ≤ A := by omega
  have hb : y.natAbs ≤ B := by omega
  have hm := Nat.mul_le_mul ha hb
  rw [← e] at hm
  omega
theorem zdivb {x y : Int} {A : Nat} (h1 : -(A : Int) ≤ x) (h2 : x ≤ A) : -(A : Int) ≤ x.tdiv y ∧ x.tdiv y ≤ A := by
  have e := Int.natAbs_tdiv_le_natAbs x y
  omega
/-- the whole quotient by a number that is known, for omega -/
theorem ztdiv (x : Int) {k : Int} (hk : 0 < k) : (0 ≤ x ∧ x.tdiv k = x / k) ∨ (x < 0 ∧ x.tdiv k = -((-x) / k)) := by
  rcases Int.lt_or_le x 0 with h | h
  · right
    refine ⟨h, ?_⟩
    have e : x = -(-x) := by omega
    rw [show x.tdiv k = (-(-x)).tdiv k from by rw [← e], Int.neg_tdiv, Int.tdiv_eq_ediv_of_nonneg (by omega)]
  · exact Or.inl ⟨h, Int.tdiv_eq_ediv_of_nonneg h⟩
theorem rp.eq {a : Int32} {x : Int} {B : Nat} (h : rp a x B) : a.toInt = x := h.1
theorem rp.of {a : Int32} {x : Int} (B : Nat) (h : a.toInt = x) (h1 : -(B : Int) ≤ x) (h2 : x ≤ (B : Int)) : rp a x B := ⟨h, h1, h2⟩
theorem rp.tight {a : Int32} {x : Int} {A : Nat} (B : Nat) (h : rp a x A) (h1 : -(B : Int) ≤ x) (h2 : x ≤ (B : Int)) : rp a x B := ⟨h.1, h1, h2⟩
theorem rp.wide {a : Int32} {x : Int} {A : Nat} (B : Nat) (h : rp a x A) (hB : A ≤ B) : rp a x B := ⟨h.1, by have := h.2.1; omega, by have := h.2.2; omega⟩
theorem rp.any (a : Int32) : rp a a.toInt 2147483648 := ⟨rfl, by have := a.le_toInt; omega, by have := a.toInt_lt; omega⟩
theorem rp.add {a b : Int32} {x y : Int} {A B : Nat} (ha : rp a x A) (hb : rp b y B) (h : A + B ≤ 2147483647) : rp (a + b) (x + y) (A + B) := by
  obtain ⟨rfl, a1, a2⟩ := ha
  obtain ⟨rfl, b1, b2⟩ := hb
  refine ⟨?_, by omega, by omega⟩
  rw [Int32.toInt_add]; exact zbm32 (by omega) (by omega)
theorem rp.sub {a b : Int32} {x y : Int} {A B : Nat} (ha : rp a x A) (hb : rp b y B) (h : A + B ≤ 2147483647) : rp (a - b) (x - y) (A + B) := by
  obtain ⟨rfl, a1, a2⟩ := ha
  obtain ⟨rfl, b1, b2⟩ := hb
  refine ⟨?_, by omega, by omega⟩
  rw [Int32.toInt_sub]; exact zbm32 (by omega) (by omega)
theorem rp.neg {a : Int32} {x : Int} {A : Nat} (ha : rp a x A) (h : A ≤ 2147483647) : rp (-a) (-x) A := by
  obtain ⟨rfl, a1, a2⟩ := ha
  refine ⟨?_, by omega, by omega⟩
  rw [Int32.toInt_neg]; exact zbm32 (by omega) (by omega)
theorem rp.mul {a b : Int32} {x y : Int} {A B : Nat} (ha : rp a x A) (hb : rp b y B) (h : A * B ≤ 2147483647) : rp (a * b) (x * y) (A * B) := by
  obtain ⟨rfl, a1, a2⟩ := ha
  obtain ⟨rfl, b1, b2⟩ := hb
  have := zmulb a1 a2 b1 b2
  refine ⟨?_, this.1, this.2⟩
  rw [Int32.toInt_mul]; exact zbm32 (by omega) (by omega)
theorem rp.div {a b : Int32} {x y : Int} {A B : Nat} (ha : rp a x A) (hb : rp b y B) (h : A ≤ 2147483647) : rp (a / b) (x.tdiv y) A := by
  obtain ⟨rfl, a1, a2⟩ := ha
  obtain ⟨rfl, b1, b2⟩ := hb
  have := zdivb (y := b.toInt) a1 a2
  refine ⟨?_, this.1, this.2⟩
  rw [Int32.toInt_div]; exact zbm32 (by omega) (by omega)
theorem rp.long {a : Int32} {x : Int} {A : Nat} (ha : rp a x A) : rq a.toInt64 x A := ⟨by rw [Int32.toInt_toInt64]; exact ha.1, ha.2⟩
theorem rp.lt {a b : Int32} {x y : Int} {A B : Nat} (ha : rp a x A) (hb : rp b y B) : a < b ↔ x < y := by rw [Int32.lt_iff_toInt_lt, ha.1, hb.1]
theorem rp.le {a b : Int32} {x y : Int} {A B : Nat} (ha : rp a x A) (hb : rp b y B) : a ≤ b ↔ x ≤ y := by rw [Int32.le_iff_toInt_le, ha.1, hb.1]
theorem rp.eqi {a b : Int32} {x y : Int} {A B : Nat} (ha : rp a x A) (hb : rp b y B) : a = b ↔ x = y := by rw [← Int32.toInt_inj, ha.1, hb.1]
theorem rp.max {a b : Int32} {x y : Int} {A B : Nat} (ha : rp a x A) (hb : rp b y B) : rp (zmax a b) (if x < y then y else x) (Nat.max A B) := by
  have h := ha.lt hb
  have e1 : A ≤ Nat.max A B := Nat.le_max_left _ _
  have e2 : B ≤ Nat.max A B := Nat.le_max_right _ _
  unfold zmax
  by_cases g : x < y
  · rw [if_pos g, if_pos (h.mpr g)]; exact hb.wide _ e2
  · rw [if_neg g, if_neg (fun k => g (h.mp k))]; exact ha.wide _ e1
theorem rp.min {a b : Int32} {x y : Int} {A B : Nat} (ha : rp a x A) (hb : rp b y B) : rp (zmin a b) (if y < x then y else x) (Nat.max A B) := by
  have h := hb.lt ha
  have e1 : A ≤ Nat.max A B := Nat.le_max_left _ _
  have e2 : B ≤ Nat.max A B := Nat.le_max_right _ _
  unfold zmin
  by_cases g : y < x
  · rw [if_pos g, if_pos (h.mpr g)]; exact hb.wide _ e2
  · rw [if_neg g, if_neg (fun k => g (h.mp k))]; exact ha.wide _ e1
theorem rp.abs {a : Int32} {x : Int} {A : Nat} (ha : rp a x A) (h : A ≤ 2147483647) : rp (zabs a) (if 0 ≤ x then x else -x) A := by
  have z : rp (0 : Int32) 0 0 := ⟨rfl, by omega, by omega⟩
  have k := z.le ha
  unfold zabs
  by_cases g : 0 ≤ x
  · rw [if_pos g, if_pos (k.mpr g)]; exact ha
  · rw [if_neg g, if_neg (fun m => g (k.mp m))]
    have e := z.sub ha (by omega)
    exact ⟨by rw [e.1]; omega, by have := ha.2; omega, by have := ha.2; omega⟩
theorem rp.lit (n : Int) (B : Nat) {a : Int32} (h : a.toInt = n) (hb : (decide (-(B : Int) ≤ n) && decide (n ≤ (B : Int))) = true) : rp a n B := by
  simp only [Bool.and_eq_true, decide_eq_true_eq] at hb
  exact ⟨h, hb.1, hb.2⟩
theorem rq.eq {a : Int64} {x : Int} {B : Nat} (h : rq a x B) : a.toInt = x := h.1
theorem rq.of {a : Int64} {x : Int} (B : Nat) (h : a.toInt = x) (h1 : -(B : Int) ≤ x) (h2 : x ≤ (B : Int)) : rq a x B := ⟨h, h1, h2⟩
theorem rq.tight {a : Int64} {x : Int} {A : Nat} (B : Nat) (h : rq a x A) (h1 : -(B : Int) ≤ x) (h2 : x ≤ (B : Int)) : rq a x B := ⟨h.1, h1, h2⟩
theorem rq.wide {a : Int64} {x : Int} {A : Nat} (B : Nat) (h : rq a x A) (hB : A ≤ B) : rq a x B := ⟨h.1, by have := h.2.1; omega, by have := h.2.2; omega⟩
theorem rq.add {a b : Int64} {x y : Int} {A B : Nat} (ha : rq a x A) (hb : rq b y B) (h : A + B ≤ 9223372036854775807) : rq (a + b) (x + y) (A + B) := by
  obtain ⟨rfl, a1, a2⟩ := ha
  obtain ⟨rfl, b1, b2⟩ := hb
  refine ⟨?_, by omega, by omega⟩
  rw [Int64.toInt_add]; exact zbm64 (by omega) (by omega)
theorem rq.sub {a b : Int64} {x y : Int} {A B : Nat} (ha : rq a x A) (hb : rq b y B) (h : A + B ≤ 9223372036854775807) : rq (a - b) (x - y) (A + B) := by
  obtain ⟨rfl, a1, a2⟩ := ha
  obtain ⟨rfl, b1, b2⟩ := hb
  refine ⟨?_, by omega, by omega⟩
  rw [Int64.toInt_sub]; exact zbm64 (by omega) (by omega)
theorem rq.neg {a : Int64} {x : Int} {A : Nat} (ha : rq a x A) (h : A ≤ 9223372036854775807) : rq (-a) (-x) A := by
  obtain ⟨rfl, a1, a2⟩ := ha
  refine ⟨?_, by omega, by omega⟩
  rw [Int64.toInt_neg]; exact zbm64 (by omega) (by omega)
theorem rq.mul {a b : Int64} {x y : Int} {A B : Nat} (ha : rq a x A) (hb : rq b y B) (h : A * B ≤ 9223372036854775807) : rq (a * b) (x * y) (A * B) := by
  obtain ⟨rfl, a1, a2⟩ := ha
  obtain ⟨rfl, b1, b2⟩ := hb
  have := zmulb a1 a2 b1 b2
  refine ⟨?_, this.1, this.2⟩
  rw [Int64.toInt_mul]; exact zbm64 (by omega) (by omega)
theorem rq.div {a b : Int64} {x y : Int} {A B : Nat} (ha : rq a x A) (hb : rq b y B) (h : A ≤ 9223372036854775807) : rq (a / b) (x.tdiv y) A := by
  obtain ⟨rfl, a1, a2⟩ := ha
  obtain ⟨rfl, b1, b2⟩ := hb
  have := zdivb (y := b.toInt) a1 a2
  refine ⟨?_, this.1, this.2⟩
  rw [Int64.toInt_div]; exact zbm64 (by omega) (by omega)
theorem rq.int {a : Int64} {x : Int} {A : Nat} (ha : rq a x A) (h : A ≤ 2147483647) : rp a.toInt32 x A := ⟨by rw [Int64.toInt_toInt32, ha.1]; exact zbm32 (by have := ha.2; omega) (by have := ha.2; omega), ha.2⟩
theorem rq.lt {a b : Int64} {x y : Int} {A B : Nat} (ha : rq a x A) (hb : rq b y B) : a < b ↔ x < y := by rw [Int64.lt_iff_toInt_lt, ha.1, hb.1]
theorem rq.le {a b : Int64} {x y : Int} {A B : Nat} (ha : rq a x A) (hb : rq b y B) : a ≤ b ↔ x ≤ y := by rw [Int64.le_iff_toInt_le, ha.1, hb.1]
theorem rq.eqi {a b : Int64} {x y : Int} {A B : Nat} (ha : rq a x A) (hb : rq b y B) : a = b ↔ x = y := by rw [← Int64.toInt_inj, ha.1, hb.1]
theorem rq.abs {a : Int64} {x : Int} {A : Nat} (ha : rq a x A) (h : A ≤ 9223372036854775807) : rq (zabsl a) (if 0 < x then x else -x) A := by
  have z : rq (0 : Int64) 0 0 := ⟨rfl, by omega, by omega⟩
  have k := z.lt ha
  unfold zabsl
  by_cases g : 0 < x
  · rw [if_pos g, if_pos (k.mpr g)]; exact ha
  · rw [if_neg g, if_neg (fun m => g (k.mp m))]; exact ha.neg h
theorem rq.lit (n : Int) (B : Nat) {a : Int64} (h : a.toInt = n) (hb : (decide (-(B : Int) ≤ n) && decide (n ≤ (B : Int))) = true) : rq a n B := by
  simp only [Bool.and_eq_true, decide_eq_true_eq] at hb
  exact ⟨h, hb.1, hb.2⟩
/-! indices, counters -/
theorem inb_ok {i : Int32} {n : Nat} (h0 : 0 ≤ i.toInt) (h1 : i.toInt < (n : Int)) : inb i n = true := by
  unfold inb
  refine decide_eq_true ?_
  rintro (h | h)
  · rw [Int32.lt_iff_toInt_lt] at h
    have e : (0 : Int32).toInt = 0 := rfl
    omega
  · have e : i.toNatClampNeg = i.toInt.toNat := rfl
    have h : n ≤ i.toNatClampNeg := h
    omega
theorem ix_eq {i : Int32} {k : Nat} (h : i.toInt = (k : Int)) : ix i = k := by
  have e : i.toNatClampNeg = i.toInt.toNat := rfl
  show i.toNatClampNeg = k
  omega
theorem ix_lit (k : Nat) {i : Int32} (h : i.toNatClampNeg = k) : ix i = k := h
/-- one more -/
theorem toInt_succ {i : Int32} {k : Nat} (h : i.toInt = (k : Int)) (hk : k < 2147483647) : (i + 1).toInt = ((k + 1 : Nat) : Int) := by
  rw [Int32.toInt_add, show (1 : Int32).toInt = 1 from rfl, zbm32 (by omega) (by omega)]; omega
theorem toInt_pred {i : Int32} {x : Int} (h : i.toInt = x) (h0 : -2147483647 ≤ x) : (i + (-1)).toInt = x - 1 := by
  have hl := i.toInt_lt
  rw [Int32.toInt_add, show (-1 : Int32).toInt = -1 from rfl, zbm32 (by omega) (by omega)]; omega
theorem upd_eq (f : Nat → Int32) (k : Nat) (x : Int32) : upd f k x k = x := if_pos rfl
theorem upd_ne (f : Nat → Int32) {k j : Nat} (x : Int32) (h : j ≠ k) : upd f k x j = f j := if_neg h
theorem updL_eq (f : Nat → Int64) (k : Nat) (x : Int64) : vp_updL f k x k = x := if_pos rfl
theorem updL_ne (f : Nat → Int64) {k j : Nat} (x : Int64) (h : j ≠ k) : vp_updL f k x j = f j := if_neg h
/-! loops -/
theorem lp_inv {S E : Type} {B : (S → Option E) → S → Option E} {I : Nat → S → Prop} {Q : E → Prop} {N : Nat} (hN : N < 1000000000000)
    (step : ∀ i, i < N → ∀ (s : S) (ih : S → Option E), I i s → (∀ s', I (i + 1) s' → ∃ e, ih s' = some e ∧ Q e) → ∃ e, B ih s = some e ∧ Q e)
    (stop : ∀ (s : S) (ih : S → Option E), I N s → ∃ e, B ih s = some e ∧ Q e) {i : Nat} {s : S} (hi : i ≤ N) (h : I i s) : ∃ e, lp B LF s = some e ∧ Q e := by
  have main : ∀ (n i : Nat) (s : S), i ≤ N → N < i + n → I i s → ∃ e, lp B n s = some e ∧ Q e := by
    intro n
    induction n with
    | zero => intro i s h1 h2; omega
    | succ n ihn =>
      intro i s h1 h2 h3
      rw [lp_succ]
      rcases Nat.lt_or_ge i N with g | g
      · exact step i g s _ h3 (fun s' h' => ihn (i + 1) s' (by omega) (by omega) h')
      · have e : i = N := by omega
        subst e
        exact stop s _ h3
  exact main LF i s hi (by have := LF_ge; omega) h
/-- a loop whose measure falls -/
theorem lp_meas {S E : Type} {B : (S → Option E) → S → Option E} {I : S → Prop} {Q : E → Prop} (μ : S → Nat)
    (step : ∀ (s : S) (ih : S → Option E), I s → (∀ s', I s' → μ s' < μ s → ∃ e, ih s' = some e ∧ Q e) → ∃ e, B ih s = some e ∧ Q e) {s : S} (hm : μ s < 1000000000000) (h : I s) : ∃ e, lp B LF s = some e ∧ Q e := by
  have main : ∀ (n : Nat) (s : S), μ s < n → I s → ∃ e, lp B n s = some e ∧ Q e := by
    intro n
    induction n with
    | zero => intro s h1; omega
    | succ n ihn =>
      intro s h1 h3
      rw [lp_succ]
      exact step s _ h3 (fun s' h' hl => ihn s' (by omega) h')
  exact main LF s (by have := LF_ge; omega) h
/-! the whole root -/
def isRoot (v r : Int) : Prop := 0 ≤ r ∧ r * r ≤ v ∧ v < (r + 1) * (r + 1)
theorem isRoot_uniq {v r t : Int} (h1 : isRoot v r) (h2 : isRoot v t) : r = t := by
  obtain ⟨a1, a2, a3⟩ := h1
  obtain ⟨b1, b2, b3⟩ := h2
  rcases Int.lt_trichotomy r t with h | h | h
  · have := Int.mul_self_le_mul_self (a := r + 1) (b := t) (by omega) (by omega)
    omega
  · exact h
  · have := Int.mul_self_le_mul_self (a := t + 1) (b := r) (by omega) (by omega)
    omega
theorem isRoot_ex (n : Nat) : ∃ r : Nat, r * r ≤ n ∧ n < (r + 1) * (r + 1) := by
  induction n with
  | zero => exact ⟨0, by decide, by decide⟩
  | succ n ih =>
    obtain ⟨r, h1, h2⟩ := ih
    rcases Nat.lt_or_ge (n + 1) ((r + 1) * (r + 1)) with h | h
    · exact ⟨r, by omega, h⟩
    · refine ⟨r + 1, h, ?_⟩
      have e : (r + 1 + 1) * (r + 1 + 1) = (r + 1) * (r + 1) + 2 * (r + 1) + 1 := by
        simp only [Nat.add_mul, Nat.mul_add]; omega
      omega
noncomputable def rootI (v : Int) : Int := ((Classical.choose (isRoot_ex v.toNat) : Nat) : Int)
theorem rootI_spec {v : Int} (hv : 0 ≤ v) : isRoot v (rootI v) := by
  have h := Classical.choose_spec (isRoot_ex v.toNat)
  unfold rootI
  generalize Classical.choose (isRoot_ex v.toNat) = r at h
  obtain ⟨h1, h2⟩ := h
  have e : ((v.toNat : Nat) : Int) = v := Int.toNat_of_nonneg hv
  refine ⟨by omega, ?_, ?_⟩
  · rw [← e]; exact_mod_cast h1
  · rw [← e]; exact_mod_cast h2
theorem rootI_eq {v r : Int} (h : isRoot v r) : rootI v = r := isRoot_uniq (rootI_spec (Int.le_trans (Int.mul_nonneg h.1 h.1) h.2.1)) h
theorem rootI_nonneg (v : Int) : 0 ≤ rootI v := by unfold rootI; omega
/-- a whole root is no more than what is above it squared -/
theorem rootI_le {v b : Int} (hv : 0 ≤ v) (hb : 0 ≤ b) (h : v ≤ b * b) : rootI v ≤ b := by
  obtain ⟨h1, h2, h3⟩ := rootI_spec hv
  rcases Int.lt_or_le b (rootI v) with g | g
  · have := Int.mul_self_le_mul_self (a := b + 1) (b := rootI v) (by omega) (by omega)
    have e : (b + 1) * (b + 1) = b * b + 2 * b + 1 := by rw [Int.add_mul, Int.mul_add]; omega
    omega
  · exact g
theorem le_rootI {v a : Int} (ha : 0 ≤ a) (h : a * a ≤ v) : a ≤ rootI v := by
  have hv : 0 ≤ v := Int.le_trans (Int.mul_nonneg ha ha) h
  obtain ⟨h1, h2, h3⟩ := rootI_spec hv
  rcases Int.lt_or_le (rootI v) a with g | g
  · have := Int.mul_self_le_mul_self (a := rootI v + 1) (b := a) (by omega) (by omega)
    omega
  · exact g
theorem zdivk {x : Int} {A : Nat} {K : Int} {k : Nat} (hK : K = (k : Int)) (hk : 0 < k) (h1 : -(A : Int) ≤ x) (h2 : x ≤ A) : -((A / k : Nat) : Int) ≤ x.tdiv K ∧ x.tdiv K ≤ ((A / k : Nat) : Int) := by
  have e := Int.natAbs_tdiv x K
  have hx : x.natAbs ≤ A := by omega
  have hkk : K.natAbs = k := by omega
  rw [hkk] at e
  have hd : x.natAbs / k ≤ A / k := Nat.div_le_div_right hx
  have e' : (x.tdiv K).natAbs = x.natAbs / k := e
  omega
theorem rp.divk {a b : Int32} {x : Int} {A : Nat} (K : Int) (k : Nat) (ha : rp a x A) (hb : b.toInt = K) (hK : K = (k : Int)) (hk : 0 < k) (h : A ≤ 2147483647) : rp (a / b) (x.tdiv K) (A / k) := by
  have e := ha.div (b := b) (y := K) (B := k) ⟨hb, by omega, by omega⟩ h
  have := zdivk hK hk ha.2.1 ha.2.2
  exact ⟨e.1, this.1, this.2⟩
theorem rq.divk {a b : Int64} {x : Int} {A : Nat} (K : Int) (k : Nat) (ha : rq a x A) (hb : b.toInt = K) (hK : K = (k : Int)) (hk : 0 < k) (h : A ≤ 9223372036854775807) : rq (a / b) (x.tdiv K) (A / k) := by
  have e := ha.div (b := b) (y := K) (B := k) ⟨hb, by omega, by omega⟩ h
  have := zdivk hK hk ha.2.1 ha.2.2
  exact ⟨e.1, this.1, this.2⟩
/-! the two roots -/
theorem zsq_nonneg (a : Int) : 0 ≤ a * a := by
  have h : ((a.natAbs * a.natAbs : Nat) : Int) = a * a := Int.natAbs_mul_self
  omega
theorem newton {x v r : Int} (hr : isRoot v r) (hx : r ≤ x) (hp : 0 < x) : r ≤ (x + v / x) / 2 ∧ (r < x → 2 * ((x + v / x) / 2 - r) ≤ x - r) := by
  obtain ⟨h0, h1, h2⟩ := hr
  have e1 : (2 * r - x) * x = 2 * (r * x) - x * x := by rw [Int.sub_mul, Int.mul_assoc]
  have e2 : (r - x) * (r - x) = r * r - 2 * (r * x) + x * x := by rw [Int.sub_mul, Int.mul_sub, Int.mul_sub, Int.mul_comm x r]; omega
  have e3 := zsq_nonneg (r - x)
  have l1 : 2 * r - x ≤ v / x := (Int.le_ediv_iff_mul_le hp).mpr (by omega)
  refine ⟨by omega, fun hlt => ?_⟩
  have l2 : (r + 1) * (r + 1) ≤ (r + 1) * x := Int.mul_le_mul_of_nonneg_left (by omega) (by omega)
  have l3 : v / x < r + 1 := (Int.ediv_lt_iff_lt_mul hp).mpr (by omega)
  omega
theorem f_Mo_root_ok {p : Int64} {v : Int} (hp : p.toInt = v) (h0 : 0 ≤ v) (hb : v ≤ 9000000000000000000) : ∃ e, f_Mo_root p = some e ∧ e.toInt = rootI v := by
  have hr := rootI_spec h0
  have hu : rootI v ≤ 3000000000 := rootI_le h0 (by omega) (by omega)
  have vq : rq p v 9000000000000000000 := ⟨hp, by omega, by omega⟩
  have key : ∃ e, lp (fB_Mo_root_7 p) LF (0, 3000000000) = some e ∧ e.1.toInt = rootI v := by
    refine lp_meas (I := fun s => 0 ≤ s.1.toInt ∧ s.1.toInt ≤ rootI v ∧ rootI v ≤ s.2.toInt ∧ s.2.toInt ≤ 3000000000) (fun s => (s.2.toInt - s.1.toInt).toNat) ?_ (by show (Int.toNat ((3000000000 : Int64).toInt - (0 : Int64).toInt)) < _; decide) ⟨by decide, by show (0 : Int64).toInt ≤ _; exact hr.1, hu, by decide⟩
    rintro ⟨lo, hi⟩ ih ⟨i1, i2, i3, i4⟩ go
    have i1 : 0 ≤ lo.toInt := i1
    have i2 : lo.toInt ≤ rootI v := i2
    have i3 : rootI v ≤ hi.toInt := i3
    have i4 : hi.toInt ≤ 3000000000 := i4
    have ql : rq lo lo.toInt 3000000000 := ⟨rfl, by omega, by omega⟩
    have qh : rq hi hi.toInt 3000000000 := ⟨rfl, by omega, by omega⟩
    simp only [fB_Mo_root_7]
    by_cases c : hi ≤ lo
    · rw [if_pos c]
      refine ⟨_, rfl, ?_⟩
      have := (qh.le ql).mp c
      show lo.toInt = rootI v
      omega
    · rw [if_neg c]
      have c' : ¬ hi.toInt ≤ lo.toInt := fun h => c ((qh.le ql).mpr h)
      have qm := (((ql.add qh (by decide)).add (rq.lit 1 1 (a := 1) rfl rfl) (by decide)).divk (b := 2) 2 2 rfl rfl (by decide) (by decide))
      have qm' := qm.tight 3000000000 (by have := ztdiv (lo.toInt + hi.toInt + 1) (k := 2) (by omega); omega) (by have := ztdiv (lo.toInt + hi.toInt + 1) (k := 2) (by omega); omega)
      have hm := ztdiv (lo.toInt + hi.toInt + 1) (k := 2) (by omega)
      generalize (lo.toInt + hi.toInt + 1).tdiv 2 = mid at qm' hm
      simp only [zlet]
      generalize (lo + hi + 1) / 2 = z at qm'
      have qq := qm'.mul qm' (by decide)
      by_cases d : p < z * z
      · rw [if_pos d]
        have d' := (vq.lt qq).mp d
        have qs := qm'.sub (rq.lit 1 1 (a := 1) rfl rfl) (by decide)
        have hlt : rootI v < mid := by
          rcases Int.lt_or_le (rootI v) mid with g | g
          · exact g
          · have := Int.mul_self_le_mul_self (a := mid) (b := rootI v) (by omega) g
            have := hr.2.1
            omega
        refine go _ ⟨i1, i2, ?_, ?_⟩ ?_
        · show rootI v ≤ (z - 1).toInt
          rw [qs.1]; omega
        · show (z - 1).toInt ≤ 3000000000
          rw [qs.1]; omega
        · show ((z - 1).toInt - lo.toInt).toNat < (hi.toInt - lo.toInt).toNat
          rw [qs.1]; omega
      · rw [if_neg d]
        have d' : ¬ v < mid * mid := fun h => d ((vq.lt qq).mpr h)
        have hle : mid ≤ rootI v := le_rootI (by omega) (by omega)
        refine go _ ⟨?_, ?_, i3, i4⟩ ?_
        · show 0 ≤ z.toInt
          rw [qm'.1]; omega
        · show z.toInt ≤ rootI v
          rw [qm'.1]; omega
        · show (hi.toInt - z.toInt).toNat < (hi.toInt - lo.toInt).toNat
          rw [qm'.1]; omega
  obtain ⟨e, he, hv⟩ := key
  refine ⟨e.1, ?_, hv⟩
  rw [f_Mo_root, he]; rfl
theorem f_AL_root_ok {p1 p2 : Int32} {a b : Int} (h1 : rp p1 a 1000000) (h2 : rp p2 b 1000000) : ∃ e, f_AL_rootOfSquares p1 p2 = some e ∧ e.toInt = rootI (a * a + b * b) := by
  have ea := zsq_nonneg a
  have eb := zsq_nonneg b
  have q1 := h1.long
  have q2 := h2.long
  have qv := (q1.mul q1 (by decide)).add (q2.mul q2 (by decide)) (by decide)
  have qs := (q1.abs (by decide)).add (q2.abs (by decide)) (by decide)
  have hr := rootI_spec (v := a * a + b * b) (by omega)
  have hu : rootI (a * a + b * b) ≤ (if 0 < a then a else -a) + (if 0 < b then b else -b) := by
    have m : ∀ x y : Int, 0 ≤ x → 0 ≤ y → x * x + y * y ≤ (x + y) * (x + y) := by
      intro x y hx hy
      have := Int.mul_nonneg hx hy
      rw [Int.add_mul, Int.mul_add, Int.mul_add, Int.mul_comm y x]; omega
    refine rootI_le (by omega) (by split <;> split <;> omega) ?_
    have t : ∀ x : Int, (if 0 < x then x else -x) * (if 0 < x then x else -x) = x * x := by
      intro x; split
      · rfl
      · exact Int.neg_mul_neg x x
    have k := m (if 0 < a then a else -a) (if 0 < b then b else -b) (by split <;> omega) (by split <;> omega)
    rw [t, t] at k
    exact k
  generalize (if 0 < a then a else -a) + (if 0 < b then b else -b) = x0 at qs hu
  generalize he0 : a * a + b * b = v at qv hr hu
  unfold f_AL_rootOfSquares
  simp only [zlet]
  generalize p1.toInt64 * p1.toInt64 + p2.toInt64 * p2.toInt64 = zv at qv
  generalize zabsl p1.toInt64 + zabsl p2.toInt64 = z0 at qs
  have hr0 := hr.1
  have ql : rootI v ≤ 2000000 := by have := qs.2.2; omega
  have key : ∃ e, lp (fB_AL_rootOfSquares_28 zv) LF (z0, 0) = some e ∧ e.1.toInt = rootI v := by
    refine lp_inv (N := 64) (I := fun i s => ∃ x : Int, rq s.1 x 2000000 ∧ s.2.toInt = (i : Int) ∧ rootI v ≤ x ∧ (x - rootI v) * (2 : Int) ^ i ≤ 2000000) (by decide) ?_ ?_ (i := 0) (by decide) ⟨x0, qs, rfl, hu, by have := qs.2.2; omega⟩
    · rintro i hi ⟨w, j⟩ ih ⟨x, hx, hj, hge, hd⟩ go
      have hj : j.toInt = (i : Int) := hj
      have hx : rq w x 2000000 := hx
      have j64 : ¬ (64 : Int32) ≤ j := by
        rw [Int32.le_iff_toInt_le, hj]; show ¬ (64 : Int) ≤ _; omega
      simp only [fB_AL_rootOfSquares_28]
      rw [if_neg j64]
      by_cases c : w ≤ 0
      · rw [if_pos c]
        refine ⟨_, rfl, ?_⟩
        have := (hx.le (rq.lit 0 0 (a := 0) rfl rfl)).mp c
        show w.toInt = rootI v
        rw [hx.1]; omega
      · rw [if_neg c]
        have c' : ¬ x ≤ 0 := fun h => c ((hx.le (rq.lit 0 0 (a := 0) rfl rfl)).mpr h)
        have c0 : ¬ w = 0 := fun h => c' (by have := (hx.eqi (rq.lit 0 0 (a := 0) rfl rfl)).mp h; omega)
        rw [if_neg c0]
        have qn := (hx.add (qv.div hx (by decide)) (by decide)).divk (b := 2) 2 2 rfl rfl (by decide) (by decide)
        have nv : 0 ≤ v := by omega
        have e1 : v.tdiv x = v / x := Int.tdiv_eq_ediv_of_nonneg nv
        have vx : 0 ≤ v / x := Int.ediv_nonneg nv (by omega)
        have e2 : (x + v / x).tdiv 2 = (x + v / x) / 2 := Int.tdiv_eq_ediv_of_nonneg (by omega)
        rw [e1, e2] at qn
        obtain ⟨n1, n2⟩ := newton hr hge (by omega)
        simp only [zlet]
        generalize (w + zv / w) / 2 = zn at qn
        generalize (x + v / x) / 2 = nx at qn n1 n2
        by_cases d : zn < w
        · rw [if_pos d]
          have d' := (qn.lt hx).mp d
          refine go _ ⟨nx, qn.tight _ (by omega) (by have := hx.2.2; omega), toInt_succ hj (by omega), n1, ?_⟩
          have m := n2 (by omega)
          have pw : (0 : Int) ≤ (2 : Int) ^ i := Int.pow_nonneg (by decide)
          have mm := Int.mul_le_mul_of_nonneg_right m pw
          rw [Int.pow_succ, Int.mul_comm ((2 : Int) ^ i) 2, ← Int.mul_assoc, Int.mul_comm (nx - rootI v) 2]
          omega
        · rw [if_neg d]
          refine ⟨_, rfl, ?_⟩
          have d' : ¬ nx < x := fun h => d ((qn.lt hx).mpr h)
          show w.toInt = rootI v
          rw [hx.1]
          rcases Int.lt_or_le (rootI v) x with g | g
          · have := n2 g; omega
          · omega
    · rintro ⟨w, j⟩ ih ⟨x, hx, hj, hge, hd⟩
      have hj : j.toInt = 64 := hj
      have j64 : (64 : Int32) ≤ j := by
        rw [Int32.le_iff_toInt_le, hj]; decide
      simp only [fB_AL_rootOfSquares_28]
      rw [if_pos j64]
      refine ⟨_, rfl, ?_⟩
      show w.toInt = rootI v
      have hx : rq w x 2000000 := hx
      rw [hx.1]
      have p64 : (2 : Int) ^ 64 = 18446744073709551616 := by decide
      rw [p64] at hd
      omega
  obtain ⟨e, he, hv⟩ := key
  refine ⟨e.1.toInt32, ?_, ?_⟩
  · rw [he]; rfl
  · have : rq e.1 (rootI v) 2000000 := ⟨hv, by omega, by omega⟩
    exact (this.int (by decide)).1
