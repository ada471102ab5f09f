/-! THE PURE SIDE 38: words -/
def wn (T : Nat → Int) (a : Nat) : Nat → Int
  | 0 => 0
  | d + 1 => 27 * wn T a d + T (a + d) - 96
theorem wn_s (T : Nat → Int) (a d : Nat) : wn T a (d + 1) = 27 * wn T a d + T (a + d) - 96 := rfl
theorem wn_0 (T : Nat → Int) (a d : Nat) (h : ∀ i, i < d → 97 ≤ T (a + i) ∧ T (a + i) ≤ 122) : 0 ≤ wn T a d := by
  induction d with
  | zero => exact Int.le_refl _
  | succ d ih =>
    have ih := ih (fun i hi => h i (by omega))
    have := h d (by omega)
    rw [wn_s]; omega
theorem wn_inj {T W : Nat → Int} {a : Nat} (d L : Nat) (hT : ∀ i, i < d → 97 ≤ T (a + i) ∧ T (a + i) ≤ 122) (hW : ∀ i, i < L → 97 ≤ W (0 + i) ∧ W (0 + i) ≤ 122) (e : wn T a d = wn W 0 L) : d = L ∧ ∀ i, i < d → T (a + i) = W (0 + i) := by
  induction d generalizing L with
  | zero =>
    cases L with
    | zero => exact ⟨rfl, fun i h => absurd h (by omega)⟩
    | succ L =>
      have w := wn_0 W 0 L (fun i hi => hW i (by omega))
      have := hW L (by omega)
      have e0 : wn T a 0 = 0 := rfl
      rw [wn_s, e0] at e; omega
  | succ d ih =>
    cases L with
    | zero =>
      have w := wn_0 T a d (fun i hi => hT i (by omega))
      have := hT d (by omega)
      have e0 : wn W 0 0 = 0 := rfl
      rw [wn_s, e0] at e; omega
    | succ L =>
      have t1 := hT d (by omega)
      have t2 := hW L (by omega)
      rw [wn_s, wn_s] at e
      have e1 : wn T a d = wn W 0 L := by omega
      have e2 : T (a + d) = W (0 + L) := by omega
      obtain ⟨k1, k2⟩ := ih L (fun i hi => hT i (by omega)) (fun i hi => hW i (by omega)) e1
      subst k1
      refine ⟨rfl, fun i hi => ?_⟩
      by_cases x : i = d
      · subst x; exact e2
      · exact k2 i (by omega)
theorem wn_eq {T W : Nat → Int} {a : Nat} (d : Nat) (h : ∀ i, i < d → T (a + i) = W (0 + i)) : wn T a d = wn W 0 d := by
  induction d with
  | zero => rfl
  | succ d ih =>
    rw [wn_s, wn_s, ih (fun i hi => h i (by omega)), h d (by omega)]
def wW (c : Nat) (i : Nat) : Int := ((zByt.getD c []).getD i 0).toInt
def wL (c : Nat) : Nat := zLen.getD c 0
def wc (c : Nat) : Int := wn (wW c) 0 (wL c)
theorem wW_b : ∀ c : Fin 11, ∀ i : Fin 6, i.val < wL c.val → 97 ≤ wW c.val (0 + i.val) ∧ wW c.val (0 + i.val) ≤ 122 := by decide +kernel
theorem wL_b : ∀ c : Fin 11, wL c.val ≤ 6 ∧ 2 ≤ wL c.val ∧ (zsl c.val).toInt = (wL c.val : Int) := by decide +kernel
theorem zsc_b : ∀ c : Fin 11, ∀ i : Fin 6, i.val < wL c.val → (zsc c.val (Int32.ofNat i.val)).toInt = wW c.val (0 + i.val) := by decide +kernel
theorem wc_b : ∀ c : Fin 11, wc c.val < 1000000000 := by decide +kernel
theorem wc_ne : ∀ c d : Fin 11, wc c.val = wc d.val → c.val = d.val := by decide +kernel
section
variable {n k : Nat} {T : Nat → Int} {w : tTe} {m : tMo}
theorem c_isWord (hB : TxB n T) (h : cT w n T) {c a d : Nat} (hc : c < 11) {p1 p2 : Int32} (h1 : p1.toInt = (a : Int)) (h2 : p2.toInt = ((a + d : Nat) : Int)) (hn : a + d ≤ n) (hl : ∀ i, i < d → 97 ≤ T (a + i) ∧ T (a + i) ≤ 122) : ∃ r, f_Te_isWord w p1 p2 c = some r ∧ okI (wn T a d = wc c) r := by
  have n300 := hB.1
  obtain ⟨b1, b2, b3⟩ := wL_b ⟨c, hc⟩
  have b1 : wL c ≤ 6 := b1
  have b3 : (zsl c).toInt = (wL c : Int) := b3
  have hW : ∀ i, i < wL c → 97 ≤ wW c (0 + i) ∧ wW c (0 + i) ≤ 122 := fun i hi => wW_b ⟨c, hc⟩ ⟨i, by omega⟩ hi
  have q1 := rp.of 300 h1 (by omega) (by omega)
  have q2 := rp.of 300 h2 (by omega) (by omega)
  have q3 := q2.sub q1 (by decide)
  have q4 := rp.of 6 b3 (by omega) (by omega)
  unfold f_Te_isWord
  by_cases e : p2 - p1 = zsl c
  · have e' := (q3.eqi q4).mp e
    have e' : d = wL c := by omega
    rw [if_pos e]
    have loop : ∃ r, lp (fB_Te_isWord_15 w p1 c) LF 0 = some r ∧ (match r with | Sum.inl x => x = 0 ∧ ¬ (∀ i, i < d → T (a + i) = wW c (0 + i)) | Sum.inr _ => ∀ i, i < d → T (a + i) = wW c (0 + i)) := by
      refine lp_inv (N := d) (I := fun i t => t.toInt = (i : Int) ∧ ∀ j, j < i → T (a + j) = wW c (0 + j)) (by omega) ?_ ?_ (i := 0) (by omega) ⟨rfl, fun j hj => absurd hj (by omega)⟩
      · rintro i hi t ih ⟨a1, a2⟩ go
        have a1 : t.toInt = (i : Int) := a1
        have a2 : ∀ j, j < i → T (a + j) = wW c (0 + j) := a2
        have hp : (p1 + t).toInt = ((a + i : Nat) : Int) := by rw [(q1.add (rp.of 6 a1 (by omega) (by omega)) (by decide)).1]; omega
        obtain ⟨r, r1, r2⟩ := c_byte hB h hp (by omega)
        have zs : (zsc c t).toInt = wW c (0 + i) := by
          rw [lit_of a1 (by omega)]; exact zsc_b ⟨c, hc⟩ ⟨i, by omega⟩ (by show i < wL c; omega)
        simp only [fB_Te_isWord_15]
        rw [if_neg (lt_lit a1 b3 (by omega)), r1, Option.bind_some, if_pos (inb_ok (by omega) (by show t.toInt < (wL c : Int); omega))]
        rcases r2 with ⟨_, r2⟩ | ⟨x, _⟩
        · by_cases y : r = zsc c t
          · rw [if_pos y]
            refine go _ ⟨toInt_succ a1 (by omega), fun j hj => ?_⟩
            by_cases z : j = i
            · subst z; rw [← r2, y, zs]
            · exact a2 j (by omega)
          · rw [if_neg y]
            exact ⟨_, rfl, rfl, fun al => y (Int32.toInt_inj.mp (by rw [r2, zs]; exact al i hi))⟩
        · omega
      · rintro t ih ⟨a1, a2⟩
        have a1 : t.toInt = (d : Int) := a1
        simp only [fB_Te_isWord_15]
        rw [if_pos (ge_lit a1 b3 (by omega))]
        exact ⟨_, rfl, a2⟩
    refine bind_ex' loop (fun q2 g2 => ?_)
    rcases q2 with x | x
    · refine ⟨_, rfl, Or.inr ⟨fun y => g2.2 (wn_inj d (wL c) hl hW y).2, g2.1⟩⟩
    · refine ⟨_, rfl, Or.inl ⟨?_, rfl⟩⟩
      unfold wc
      rw [← e']; exact wn_eq d g2
  · rw [if_neg e]
    exact ⟨_, rfl, Or.inr ⟨fun y => e ((q3.eqi q4).mpr (by have := (wn_inj d (wL c) hl hW y).1; omega)), rfl⟩⟩
theorem c_clauseOf (hB : TxB n T) (h : cT w n T) {f l a d : Nat} (hf : f ≤ l) (hl11 : l < 11) {p0 p1 p2 : Int32} (t0 : inb p0 3 = true) (t1 : zT_FIRST_CLAUSE.getD (ix p0) 0 = Int32.ofNat f) (t2 : zT_LAST_CLAUSE.getD (ix p0) 0 = Int32.ofNat l) (h1 : p1.toInt = (a : Int)) (h2 : p2.toInt = ((a + d : Nat) : Int)) (hn : a + d ≤ n) (hl : ∀ i, i < d → 97 ≤ T (a + i) ∧ T (a + i) ≤ 122) : ∃ r, f_Re_clauseOf w p0 p1 p2 = some r ∧ ((∃ c, f ≤ c ∧ c ≤ l ∧ wn T a d = wc c ∧ r = Int32.ofNat c) ∨ ((∀ c, f ≤ c → c ≤ l → ¬ wn T a d = wc c) ∧ r = -1)) := by
  have wof : ∀ c : Fin 11, f_Re_wordOf (Int32.ofNat c.val) = c.val := by decide +kernel
  have lI : (Int32.ofNat l).toInt = (l : Int) := Int32.toInt_ofNat_of_lt (by omega)
  have fI : (Int32.ofNat f).toInt = (f : Int) := Int32.toInt_ofNat_of_lt (by omega)
  unfold f_Re_clauseOf
  rw [if_pos t0, t1]
  have loop : ∃ r, lp (fB_Re_clauseOf_7 w p0 p1 p2) LF (Int32.ofNat f) = some r ∧ (match r with | Sum.inl x => ∃ c, f ≤ c ∧ c ≤ l ∧ wn T a d = wc c ∧ x = Int32.ofNat c | Sum.inr _ => ∀ c, f ≤ c → c ≤ l → ¬ wn T a d = wc c) := by
    refine lp_inv (N := l + 1 - f) (I := fun i t => t.toInt = ((f + i : Nat) : Int) ∧ ∀ c, f ≤ c → c < f + i → ¬ wn T a d = wc c) (by omega) ?_ ?_ (i := 0) (by omega) ⟨fI, fun c g1 g2 => absurd g2 (by omega)⟩
    · rintro i hi t ih ⟨a1, a2⟩ go
      have a1 : t.toInt = ((f + i : Nat) : Int) := a1
      have a2 : ∀ c, f ≤ c → c < f + i → ¬ wn T a d = wc c := a2
      have et : t = Int32.ofNat (f + i) := lit_of a1 (by omega)
      have ew : f_Re_wordOf t = f + i := by rw [et]; exact wof ⟨f + i, by omega⟩
      simp only [fB_Re_clauseOf_7, if_pos t0, t2, ew]
      rw [if_neg (show ¬ Int32.ofNat l < t by rw [Int32.lt_iff_toInt_lt, lI, a1]; omega)]
      refine bind_ex' (c_isWord hB h (c := f + i) (by omega) h1 h2 hn hl) (fun r13 h13 => ?_)
      rcases h13 with ⟨y, g⟩ | ⟨y, g⟩
      · rw [g, if_neg (show ¬ (1 : Int32) = 0 by decide)]
        exact ⟨_, rfl, f + i, by omega, by omega, y, et⟩
      · rw [g, if_pos rfl]
        have z := toInt_succ a1 (by omega)
        refine go _ ⟨z, fun c g1 g2 => ?_⟩
        by_cases x : c = f + i
        · subst x; exact y
        · exact a2 c g1 (by omega)
    · rintro t ih ⟨a1, a2⟩
      have a1 : t.toInt = ((f + (l + 1 - f) : Nat) : Int) := a1
      have a2 : ∀ c, f ≤ c → c < f + (l + 1 - f) → ¬ wn T a d = wc c := a2
      simp only [fB_Re_clauseOf_7, if_pos t0, t2]
      rw [if_pos (show Int32.ofNat l < t by rw [Int32.lt_iff_toInt_lt, lI, a1]; omega)]
      exact ⟨_, rfl, fun c g1 g2 => a2 c g1 (by omega)⟩
  refine bind_ex' loop (fun q5 h5 => ?_)
  rcases q5 with x | x
  · exact ⟨_, rfl, Or.inl h5⟩
  · exact ⟨_, rfl, Or.inr ⟨h5, rfl⟩⟩
/-- what the reference's number says of the word -/
def saidI (x X : Int) : Prop := x = X ∨ (1000000000000 < x ∧ 1000000000000 < X)
theorem m_readWord (hB : TxB n T) (h : mT (gMo_ints m) (gMo_text m) n T) (hj : (gMo_ints m 13).toInt = (k : Int)) (hk : k ≤ n) : ∃ r, f_Mo_readWord m = some r ∧ ((r.1 13).toInt = (scan (isB T) n k : Int) ∧ (r.1 15).toInt = (scan (isL T) n (scan (isB T) n k) : Int) ∧ (∀ x, x ≠ 13 → x ≠ 15 → r.1 x = gMo_ints m x) ∧ saidI r.2.toInt (wn T (scan (isB T) n k) (scan (isL T) n (scan (isB T) n k) - scan (isB T) n k))) := by
  unfold f_Mo_readWord
  have n300 := hB.1
  refine bind_ex' (m_here hB h hj hk) (fun r1 h1 => ?_)
  obtain ⟨u1, u2, -⟩ := h1
  obtain ⟨v1, v2, -, -⟩ := scan_spec (isB T) hk
  generalize scan (isB T) n k = e at u1 v1 v2
  obtain ⟨s1, s2, s3, s4⟩ := scan_spec (isL T) v2
  generalize scan (isL T) n e = b at s1 s2 s3 s4
  have loop : ∃ r, lp (fB_Mo_readWord_18 m) LF (upd r1.2 15 (r1.2 13), 0) = some r ∧ ((r.1 15).toInt = (b : Int) ∧ (∀ x, x ≠ 15 → r.1 x = r1.2 x) ∧ saidI r.2.toInt (wn T e (b - e))) := by
    refine lp_inv (N := b - e) (I := fun i t => (t.1 15).toInt = ((e + i : Nat) : Int) ∧ (∀ x, x ≠ 15 → t.1 x = r1.2 x) ∧ (0 ≤ t.2.toInt ∧ t.2.toInt ≤ 27000000000026) ∧ saidI t.2.toInt (wn T e i)) (by omega) ?_ ?_ (i := 0) (by omega) ⟨by show (upd r1.2 15 (r1.2 13) 15).toInt = _; rw [upd_eq]; exact u1, fun x hx => by show upd r1.2 15 (r1.2 13) x = _; rw [upd_ne _ _ hx], ⟨(show (0 : Int) ≤ (0 : Int64).toInt by decide), (show (0 : Int64).toInt ≤ (27000000000026 : Int) by decide)⟩, Or.inl rfl⟩
    · rintro i hi ⟨f, z⟩ ih ⟨a1, a2, a3, a4⟩ go
      have a1 : (f 15).toInt = ((e + i : Nat) : Int) := a1
      have a2 : ∀ x, x ≠ 15 → f x = r1.2 x := a2
      have a3 : 0 ≤ z.toInt ∧ z.toInt ≤ 27000000000026 := a3
      have a4 : saidI z.toInt (wn T e i) := a4
      have hn : (f 11).toInt = (n : Int) := by rw [a2 11 (by decide), u2 11 (by decide)]; exact h.1
      have p := s3 (e + i) (by omega) (by omega)
      have p : 97 ≤ T (e + i) ∧ T (e + i) ≤ 122 := of_decide_eq_true p
      have r2 := h.2 (e + i) (by omega)
      have rt := rp.of 122 r2 (by omega) (by omega)
      have rz := rq.of 27000000000026 (a := z) rfl (by omega) (by omega)
      have w0 := wn_0 T e i (fun j hj => of_decide_eq_true (s3 (e + j) (by omega) (by omega)))
      have ws := wn_s T e i
      have mi := m_in rt.long (rq.lit 97 97 (a := 97) rfl rfl) (rq.lit 122 122 (a := 122) rfl rfl)
      rw [if_pos p] at mi
      have hin : inb (f 15) 300 = true := inb_ok (by omega) (by omega)
      simp only [fB_Mo_readWord_18, if_pos hin, ix_eq a1]
      rw [if_neg (lt_lit a1 hn (by omega)), mi, if_neg (show ¬ (1 : Int32) = 0 by decide)]
      have fin : ∀ (w11 : Int64) (z15 : Int32), z15 = f 15 + 1 → (0 ≤ w11.toInt ∧ w11.toInt ≤ 27000000000026) → saidI w11.toInt (wn T e (i + 1)) → ∃ r, ih (upd f 15 z15, w11) = some r ∧ ((r.1 15).toInt = (b : Int) ∧ (∀ x, x ≠ 15 → r.1 x = r1.2 x) ∧ saidI r.2.toInt (wn T e (b - e))) := by
        intro w11 z15 h15 g1 g2
        refine go _ ⟨?_, fun x hx => ?_, g1, g2⟩
        · show (upd f 15 z15 15).toInt = _
          rw [upd_eq, h15, toInt_succ a1 (by omega)]; omega
        · show upd f 15 z15 x = _
          rw [upd_ne _ _ hx]; exact a2 x hx
      by_cases c : z ≤ 1000000000000
      · have c' := (rz.le (rq.lit 1000000000000 1000000000000 (a := 1000000000000) rfl rfl)).mp c
        rw [if_pos c, Option.bind_some]
        refine zlet_ex fun z15 h15 => ?_
        have kz := ((((rq.lit 27 27 (a := 27) rfl rfl).mul (rz.tight 1000000000000 (by omega) c') (by decide)).add rt.long (by decide)).sub (rq.lit 96 96 (a := 96) rfl rfl) (by decide)).1
        refine fin _ _ h15 (by rw [kz]; omega) (Or.inl ?_)
        rcases a4 with y | y
        · rw [kz, ws, y]
        · omega
      · have c' : ¬ _ := fun x => c ((rz.le (rq.lit 1000000000000 1000000000000 (a := 1000000000000) rfl rfl)).mpr x)
        rw [if_neg c, Option.bind_some]
        refine zlet_ex fun z15 h15 => ?_
        have kz : (2000000000000 : Int64).toInt = 2000000000000 := by decide +kernel
        refine fin _ _ h15 (by rw [kz]; omega) (Or.inr ⟨by rw [kz]; omega, ?_⟩)
        rcases a4 with y | y <;> omega
    · rintro ⟨f, z⟩ ih ⟨a1, a2, a3, a4⟩
      have a1 : (f 15).toInt = ((e + (b - e) : Nat) : Int) := a1
      have a1 : (f 15).toInt = (b : Int) := by rw [a1]; omega
      have a2 : ∀ x, x ≠ 15 → f x = r1.2 x := a2
      have a4 : saidI z.toInt (wn T e (b - e)) := a4
      have hn : (f 11).toInt = (n : Int) := by rw [a2 11 (by decide), u2 11 (by decide)]; exact h.1
      simp only [fB_Mo_readWord_18]
      by_cases d : b < n
      · have p := s4 d
        have p : ¬ (97 ≤ T b ∧ T b ≤ 122) := fun x => p (decide_eq_true x)
        have tb := hB.2 b d
        have mi := m_in (rp.of 255 (h.2 b d) (by omega) (by omega)).long (rq.lit 97 97 (a := 97) rfl rfl) (rq.lit 122 122 (a := 122) rfl rfl)
        rw [if_neg p] at mi
        rw [if_neg (lt_lit a1 hn d), if_pos (inb_ok (by omega) (by omega)), ix_eq a1, mi, if_pos rfl]
        exact ⟨_, rfl, a1, a2, a4⟩
      · rw [if_pos (ge_lit a1 hn (by omega))]
        exact ⟨_, rfl, a1, a2, a4⟩
  refine bind_ex' loop (fun q3 h3 => ⟨_, rfl, by show (q3.1 13).toInt = _; rw [h3.2.1 13 (by decide)]; exact u1, h3.1, fun x hx hx' => (h3.2.1 x hx').trans (u2 x hx), h3.2.2⟩)
end
