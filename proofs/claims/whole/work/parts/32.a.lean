/-! THE PURE SIDE 17: what holds between class and reference after n calls -/
def RelQ (q px ps : Nat → Int) (w : tQu) (i t x z : Nat → Int32) : Prop := QB q px ps ∧ cQ w q px ps ∧ mQ i t x z q px ps
def RelP (n : Nat) (T E R : Nat → Int) (w : tPl) (i a : Nat → Int32) : Prop := PB n T E R ∧ cP w n T E R ∧ mP i a n T E R
def RelH (n : Nat) (H : Nat → Int) (w : tTi) (i h : Nat → Int32) : Prop := n ≤ 24 ∧ (∀ k, k < n → 0 ≤ H k ∧ H k ≤ 999) ∧ (gTi_ints w 0).toInt = (n : Int) ∧ (i 6).toInt = (n : Int) ∧ ∀ k, k < n → (gTi_heights w k).toInt = H k ∧ (h k).toInt = H k
def RelS (c : Int) (q s L : Nat → Int) (w : tSh) (f : Nat → Int64) (g i : Nat → Int32) : Prop := RB c s ∧ LB q L ∧ cS (gSh_ints w) (gSh_harm w) s ∧ cL (gLi_fast (gSh_lines w)) (gLi_place (gSh_lines w)) (gLi_post (gSh_lines w)) (gLi_length (gSh_lines w)) L ∧ mS f s ∧ mL g L ∧ gSh_ints w 12 = i 26 ∧ 0 ≤ (i 26).toInt
def RelT (w : tTe) (i t : Nat → Int32) : Prop := ∃ n : Nat, n ≤ 300 ∧ (gTe_ints w 1).toInt = (n : Int) ∧ (i 11).toInt = (n : Int) ∧ ∀ k, k < n → gTe_bytes w k = t k ∧ 0 ≤ (t k).toInt ∧ (t k).toInt ≤ 255
def RelL (a g i t : Nat → Int32) : Prop := ∃ n : Nat, n ≤ 60 ∧ (a 13).toInt = (n : Int) ∧ (i 30).toInt = (n : Int) ∧ ∀ k, k < n → g k = t k ∧ -99999 ≤ (t k).toInt ∧ (t k).toInt ≤ 99999
def RelF (a i : Nat → Int32) : Prop := a 14 = i 12
def RelI (c : Int) (q : Nat → Int) (k : Int32) (w : tSh) (k' : Int32) (f : Nat → Int64) (i : Nat) : Prop := (k = 0 ∧ k' = 0) ∨ (k = 1 ∧ k' = 1 ∧ ∃ s L : Nat → Int, RB c s ∧ LB q L ∧ cS (gSh_ints w) (gSh_harm w) s ∧ cL (gLi_fast (gSh_lines w)) (gLi_place (gSh_lines w)) (gLi_post (gSh_lines w)) (gLi_length (gSh_lines w)) L ∧ mS (fun j => f (40 * i + j)) s ∧ (∀ j, j < 24 → (f (40 * i + 13 + j)).toInt = L j ∧ -2147483648 ≤ L j ∧ L j ≤ 2147483647) ∧ (gSh_ints w 12).toInt = (f (40 * i + 37)).toInt ∧ 0 ≤ (gSh_ints w 12).toInt)
def Rel (n : Nat) (v : tAL) (m : tMo) : Prop := ∃ (q px ps s L : Nat → Int) (np : Nat) (T E R : Nat → Int) (nh : Nat) (H : Nat → Int),
  RelQ q px ps (gAL_quay v) (gMo_ints m) (gMo_told m) (gMo_postX m) (gMo_postStrong m) ∧ RelP np T E R (gAL_plan v) (gMo_ints m) (gMo_atRow m) ∧ RelH nh H (gAL_tide v) (gMo_ints m) (gMo_heights m) ∧ RelS (600 * (n : Int)) q s L (gAL_ship v) (gMo_ship m) (gMo_lines m) (gMo_ints m) ∧ RelT (gAL_text v) (gMo_ints m) (gMo_text m) ∧ RelL (gAL_ints v) (gAL_logged v) (gMo_ints m) (gMo_logRow m) ∧ RelF (gAL_ints v) (gMo_ints m) ∧ RelI (600 * (n : Int)) q (gAL_kept v 0) (gAL_images0 v) (gMo_isKept m 0) (gMo_images m) 0 ∧ RelI (600 * (n : Int)) q (gAL_kept v 1) (gAL_images1 v) (gMo_isKept m 1) (gMo_images m) 1
theorem RB.mono {c c' : Int} {s : Nat → Int} (h : RB c s) (hc : c ≤ c') : RB c' s := by
  unfold RB SB at h ⊢; omega
theorem RelS.mono {c c' : Int} {q s L : Nat → Int} {w : tSh} {f : Nat → Int64} {g i : Nat → Int32} (h : RelS c q s L w f g i) (hc : c ≤ c') : RelS c' q s L w f g i := ⟨h.1.mono hc, h.2⟩
theorem RelI.mono {c c' : Int} {q : Nat → Int} {k k' : Int32} {w : tSh} {f : Nat → Int64} {i : Nat} (h : RelI c q k w k' f i) (hc : c ≤ c') : RelI c' q k w k' f i := by
  rcases h with h | ⟨h1, h2, s, L, h3, h4⟩
  · exact Or.inl h
  · exact Or.inr ⟨h1, h2, s, L, h3.mono hc, h4⟩
theorem RelQ.ints {q px ps : Nat → Int} {w : tQu} {i j t x z : Nat → Int32} (h : RelQ q px ps w i t x z) (e : j 1 = i 1) : RelQ q px ps w j t x z := ⟨h.1, h.2.1, h.2.2.1, by rw [e]; exact h.2.2.2.1, h.2.2.2.2⟩
theorem RelP.ints {n : Nat} {T E R : Nat → Int} {w : tPl} {i j a : Nat → Int32} (h : RelP n T E R w i a) (e : j 4 = i 4) : RelP n T E R w j a := ⟨h.1, h.2.1, by rw [e]; exact h.2.2.1, h.2.2.2⟩
theorem RelH.ints {n : Nat} {H : Nat → Int} {w : tTi} {i j a : Nat → Int32} (h : RelH n H w i a) (e : j 6 = i 6) : RelH n H w j a := ⟨h.1, h.2.1, h.2.2.1, by rw [e]; exact h.2.2.2.1, h.2.2.2.2⟩
theorem RelS.ints {c : Int} {q s L : Nat → Int} {w : tSh} {f : Nat → Int64} {g i j : Nat → Int32} (h : RelS c q s L w f g i) (e : j 26 = i 26) : RelS c q s L w f g j := ⟨h.1, h.2.1, h.2.2.1, h.2.2.2.1, h.2.2.2.2.1, h.2.2.2.2.2.1, by rw [e]; exact h.2.2.2.2.2.2.1, by rw [e]; exact h.2.2.2.2.2.2.2⟩
theorem RelT.ints {w : tTe} {i j t : Nat → Int32} (h : RelT w i t) (e : j 11 = i 11) : RelT w j t := by
  obtain ⟨n, h1, h2, h3, h4⟩ := h
  exact ⟨n, h1, h2, by rw [e]; exact h3, h4⟩
theorem RelL.ints {a b g i j t : Nat → Int32} (h : RelL a g i t) (e : j 30 = i 30) (e2 : b 13 = a 13) : RelL b g j t := by
  obtain ⟨n, h1, h2, h3, h4⟩ := h
  exact ⟨n, h1, by rw [e2]; exact h2, by rw [e]; exact h3, h4⟩
theorem RelF.ints {a b i j : Nat → Int32} (h : RelF a i) (e : j 12 = i 12) (e2 : b 14 = a 14) : RelF b j := by
  unfold RelF at h ⊢; rw [e, e2]; exact h
theorem Rel.next {n : Nat} {v : tAL} {m : tMo} (h : Rel n v m) : Rel (n + 1) v m := by
  obtain ⟨q, px, ps, s, L, np, T, E, R, nh, H, h1, h2, h3, h4, h5, h6, h7, h8, h9⟩ := h
  exact ⟨q, px, ps, s, L, np, T, E, R, nh, H, h1, h2, h3, h4.mono (by omega), h5, h6, h7, h8.mono (by omega), h9.mono (by omega)⟩
/-- with the reference's scratch changed -/
theorem Rel.scratch {n : Nat} {v v' : tAL} {m m' : tMo} (h : Rel n v m) (e1 : gAL_quay v' = gAL_quay v) (e2 : gAL_plan v' = gAL_plan v) (e3 : gAL_tide v' = gAL_tide v) (e4 : gAL_ship v' = gAL_ship v) (e5 : gAL_text v' = gAL_text v) (e6 : gAL_ints v' = gAL_ints v) (e7 : gAL_logged v' = gAL_logged v) (e8 : gAL_kept v' = gAL_kept v) (e9 : gAL_images0 v' = gAL_images0 v) (e10 : gAL_images1 v' = gAL_images1 v)
    (d1 : gMo_ints m' = gMo_ints m) (d3 : gMo_postX m' = gMo_postX m) (d4 : gMo_postStrong m' = gMo_postStrong m) (d5 : gMo_atRow m' = gMo_atRow m) (d6 : gMo_heights m' = gMo_heights m) (d9 : gMo_text m' = gMo_text m) (d10 : gMo_logRow m' = gMo_logRow m) (d11 : gMo_images m' = gMo_images m) (d12 : gMo_isKept m' = gMo_isKept m)
    (hq : ∀ q px ps, mQ (gMo_ints m) (gMo_told m) (gMo_postX m) (gMo_postStrong m) q px ps → mQ (gMo_ints m) (gMo_told m') (gMo_postX m) (gMo_postStrong m) q px ps) (hs : ∀ s, mS (gMo_ship m) s → mS (gMo_ship m') s) (hl : ∀ L, mL (gMo_lines m) L → mL (gMo_lines m') L) : Rel (n + 1) v' m' := by
  obtain ⟨q, px, ps, s, L, np, T, E, R, nh, H, h1, h2, h3, h4, h5, h6, h7, h8, h9⟩ := h.next
  unfold Rel
  rw [e1, e2, e3, e4, e5, e6, e7, e8, e9, e10, d1, d3, d4, d5, d6, d9, d10, d11, d12]
  exact ⟨q, px, ps, s, L, np, T, E, R, nh, H, ⟨h1.1, h1.2.1, hq _ _ _ h1.2.2⟩, h2, h3, ⟨h4.1, h4.2.1, h4.2.2.1, h4.2.2.2.1, hs _ h4.2.2.2.2.1, hl _ h4.2.2.2.2.2.1, h4.2.2.2.2.2.2⟩, h5, h6, h7, h8, h9⟩
/-! what both ask -/
theorem c_hasPost {w : tQu} {q px ps : Nat → Int} (hQ : cQ w q px ps) (hB : QB q px ps) (k : Int32) : okI (0 ≤ k.toInt ∧ k.toInt < q 13) (f_Qu_hasPost w k) := by
  have h13 := hQ.1 13 (by decide)
  have b13 := hB.2.2.2.2.2.2.2.2.2.2.2.2.1
  unfold f_Qu_hasPost
  by_cases c1 : k < 0
  · rw [if_pos c1]
    rw [Int32.lt_iff_toInt_lt] at c1
    have c1 : k.toInt < 0 := c1
    exact Or.inr ⟨by omega, rfl⟩
  · rw [if_neg c1]
    rw [Int32.lt_iff_toInt_lt] at c1
    have c1 : ¬ k.toInt < 0 := c1
    by_cases c2 : gQu_ints w 13 ≤ k
    · rw [if_pos c2]
      rw [Int32.le_iff_toInt_le, h13] at c2
      exact Or.inr ⟨by omega, rfl⟩
    · rw [if_neg c2]
      rw [Int32.le_iff_toInt_le, h13] at c2
      have c3 : ¬ (12 : Int32) ≤ k := by rw [Int32.le_iff_toInt_le]; show ¬ (12 : Int) ≤ _; omega
      rw [if_neg c3]
      exact Or.inl ⟨by omega, rfl⟩
theorem m_isPost {m : tMo} {q px ps : Nat → Int} (hQ : mQ (gMo_ints m) (gMo_told m) (gMo_postX m) (gMo_postStrong m) q px ps) (hB : QB q px ps) (k : Int32) : okI (0 ≤ k.toInt ∧ k.toInt < q 13) (f_Mo_isPost m k) := by
  have b13 := hB.2.2.2.2.2.2.2.2.2.2.2.2.1
  have hp : rp (gMo_ints m 1) (q 13) 12 := ⟨hQ.2.1, by omega, by omega⟩
  unfold f_Mo_isPost
  rw [m_in (rp.any k).long (rq.lit 0 0 (a := 0) rfl rfl) (hp.sub (rp.lit 1 1 (a := 1) rfl rfl) (by decide)).long]
  by_cases d : 0 ≤ k.toInt ∧ k.toInt ≤ q 13 - 1
  · rw [if_pos d]; exact Or.inl ⟨by omega, rfl⟩
  · rw [if_neg d]; exact Or.inr ⟨by omega, rfl⟩
theorem c_isPlace (k : Int32) : okI (-100 ≤ k.toInt ∧ k.toInt ≤ 100) (f_Sh_isPlace k) := by
  have h := rp.any k
  unfold f_Sh_isPlace
  by_cases c1 : k < -100
  · have c1' := (h.lt (rp.lit (-100) 100 (a := -100) rfl rfl)).mp c1
    rw [if_pos c1]; exact Or.inr ⟨by omega, rfl⟩
  · have c1' : ¬ _ := fun g => c1 ((h.lt (rp.lit (-100) 100 (a := -100) rfl rfl)).mpr g)
    rw [if_neg c1]
    by_cases c2 : 100 < k
    · have c2' := ((rp.lit 100 100 (a := 100) rfl rfl).lt h).mp c2
      rw [if_pos c2]; exact Or.inr ⟨by omega, rfl⟩
    · have c2' : ¬ _ := fun g => c2 (((rp.lit 100 100 (a := 100) rfl rfl).lt h).mpr g)
      rw [if_neg c2]; exact Or.inl ⟨by omega, rfl⟩
theorem m_isPlace (k : Int32) : okI (-100 ≤ k.toInt ∧ k.toInt ≤ 100) (f_Mo_isPlace k) := by
  unfold f_Mo_isPlace
  rw [m_in (rp.any k).long (rq.lit (-100) 100 (a := -100) rfl rfl) (rq.lit 100 100 (a := 100) rfl rfl)]
  by_cases d : -100 ≤ k.toInt ∧ k.toInt ≤ 100
  · rw [if_pos d]; exact Or.inl ⟨d, rfl⟩
  · rw [if_neg d]; exact Or.inr ⟨d, rfl⟩
def fastP (L : Nat → Int) (x : Int) : Prop := ∃ l : Nat, l < 6 ∧ x = (l : Int) ∧ L (4 * l) = 1
def okO (A : Prop) (r : Option Int32) : Prop := (A ∧ r = some 1) ∨ (¬ A ∧ r = some 0)
theorem c_isFast {w : tLi} {q L : Nat → Int} (hL : LB q L) (hl : cL (gLi_fast w) (gLi_place w) (gLi_post w) (gLi_length w) L) (k : Int32) : okO (fastP L k.toInt) (f_Li_isFast w k) := by
  unfold f_Li_isFast
  by_cases c1 : k < 0
  · rw [if_pos c1]
    rw [Int32.lt_iff_toInt_lt] at c1
    have c1 : k.toInt < 0 := c1
    exact Or.inr ⟨fun ⟨l, h1, h2, h3⟩ => by omega, rfl⟩
  · rw [if_neg c1]
    rw [Int32.lt_iff_toInt_lt] at c1
    have c1 : ¬ k.toInt < 0 := c1
    by_cases c2 : (6 : Int32) ≤ k
    · rw [if_pos c2]
      rw [Int32.le_iff_toInt_le] at c2
      have c2 : (6 : Int) ≤ k.toInt := c2
      exact Or.inr ⟨fun ⟨l, h1, h2, h3⟩ => by omega, rfl⟩
    · rw [if_neg c2]
      rw [Int32.le_iff_toInt_le] at c2
      have c2 : ¬ (6 : Int) ≤ k.toInt := c2
      have hk : k.toInt = (k.toInt.toNat : Int) := by omega
      have h6 : k.toInt.toNat < 6 := by omega
      rw [if_pos (inb_ok (by omega) (by omega)), ix_eq hk]
      have e := (hl _ h6).1
      by_cases d : gLi_fast w k.toInt.toNat = 0
      · rw [if_pos d]
        refine Or.inr ⟨fun ⟨l, h1, h2, h3⟩ => ?_, rfl⟩
        have : l = k.toInt.toNat := by omega
        rw [d, ← this, h3] at e
        exact absurd e (by decide)
      · rw [if_neg d]
        refine Or.inl ⟨⟨_, h6, hk, ?_⟩, rfl⟩
        rcases hL _ h6 with g | g
        · exact absurd (Int32.toInt_inj.mp (by rw [e, g]; rfl)) d
        · exact g.1
theorem m_isFastO {m : tMo} {L : Nat → Int} (hl : mL (gMo_lines m) L) (k : Int32) : okO (fastP L k.toInt) (f_Mo_isFast m k) := by
  by_cases c : 0 ≤ k.toInt ∧ k.toInt ≤ 5
  · have hk : k.toInt = (k.toInt.toNat : Int) := by omega
    have h6 : k.toInt.toNat < 6 := by omega
    rw [m_isFast hl h6 hk]
    by_cases d : L (4 * k.toInt.toNat) = 1
    · rw [if_pos d]; exact Or.inl ⟨⟨_, h6, hk, d⟩, rfl⟩
    · rw [if_neg d]
      refine Or.inr ⟨fun ⟨l, h1, h2, h3⟩ => d ?_, rfl⟩
      have : l = k.toInt.toNat := by omega
      rw [← this]; exact h3
  · unfold f_Mo_isFast
    rw [m_in (rp.any k).long (rq.lit 0 0 (a := 0) rfl rfl) (rq.lit 5 5 (a := 5) rfl rfl), if_neg c, if_pos rfl]
    exact Or.inr ⟨fun ⟨l, h1, h2, h3⟩ => by omega, rfl⟩
theorem c_isNumber (k : Int32) : okI (0 ≤ k.toInt ∧ k.toInt ≤ 5) (f_Li_isNumber k) := by
  have h := rp.any k
  unfold f_Li_isNumber
  by_cases c1 : k < 0
  · have c1' := (h.lt (rp.lit 0 0 (a := 0) rfl rfl)).mp c1
    rw [if_pos c1]; exact Or.inr ⟨by omega, rfl⟩
  · have c1' : ¬ _ := fun g => c1 ((h.lt (rp.lit 0 0 (a := 0) rfl rfl)).mpr g)
    rw [if_neg c1]
    by_cases c2 : 6 ≤ k
    · have c2' := ((rp.lit 6 6 (a := 6) rfl rfl).le h).mp c2
      rw [if_pos c2]; exact Or.inr ⟨by omega, rfl⟩
    · have c2' : ¬ _ := fun g => c2 (((rp.lit 6 6 (a := 6) rfl rfl).le h).mpr g)
      rw [if_neg c2]; exact Or.inl ⟨by omega, rfl⟩
theorem m_inI (k : Int32) {a b : Int64} {x y : Int} {A B : Nat} (ha : rq a x A) (hb : rq b y B) : okI (x ≤ k.toInt ∧ k.toInt ≤ y) (f_Mo_in k.toInt64 a b) := by
  rw [m_in (rp.any k).long ha hb]
  by_cases d : x ≤ k.toInt ∧ k.toInt ≤ y
  · rw [if_pos d]; exact Or.inl ⟨d, rfl⟩
  · rw [if_neg d]; exact Or.inr ⟨d, rfl⟩
/-- both ask the same: both say 0, or both go on -/
theorem ite2 {α β : Type} {x y : Int32} {A : Prop} {a b : Option α} {a' b' : Option β} {Q : α → β → Prop} (h : okI A x) (h' : okI A y) (h0 : ¬ A → ∃ r r', a = some r ∧ a' = some r' ∧ Q r r') (h1 : A → ∃ r r', b = some r ∧ b' = some r' ∧ Q r r') : ∃ r r', (if x = 0 then a else b) = some r ∧ (if y = 0 then a' else b') = some r' ∧ Q r r' := by
  rcases h with ⟨e1, e2⟩ | ⟨e1, e2⟩ <;> rcases h' with ⟨f1, f2⟩ | ⟨f1, f2⟩
  · rw [e2, f2, if_neg (show ¬ (1 : Int32) = 0 by decide), if_neg (show ¬ (1 : Int32) = 0 by decide)]; exact h1 e1
  · exact absurd e1 f1
  · exact absurd f1 e1
  · rw [e2, f2, if_pos rfl, if_pos rfl]; exact h0 e1
theorem bind2 {α β α' β' : Type} {o : Option α} {o' : Option α'} {k : α → Option β} {k' : α' → Option β'} {Q : β → β' → Prop} {P : α → Prop} {P' : α' → Prop} (h : ∃ a, o = some a ∧ P a) (h' : ∃ a, o' = some a ∧ P' a) (hk : ∀ a a', P a → P' a' → ∃ r r', k a = some r ∧ k' a' = some r' ∧ Q r r') : ∃ r r', Option.bind o k = some r ∧ Option.bind o' k' = some r' ∧ Q r r' := by
  obtain ⟨a, e, p⟩ := h
  obtain ⟨a', e', p'⟩ := h'
  rw [e, e']; exact hk a a' p p'
theorem okO.ex {A : Prop} {o : Option Int32} (h : okO A o) : ∃ a, o = some a ∧ okI A a := by
  rcases h with ⟨a, b⟩ | ⟨a, b⟩
  · exact ⟨1, b, Or.inl ⟨a, rfl⟩⟩
  · exact ⟨0, b, Or.inr ⟨a, rfl⟩⟩
