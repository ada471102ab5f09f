/-! cells put back in their places -/
def zput : va_W → List Nat → va_W → va_W
  | ws, p :: ps, c :: cs => zput (ws.set p c) ps cs
  | ws, _, _ => ws
theorem zput_key : ∀ (ps : List Nat) (ws : va_W) (cs cs' : va_W), ps.map (fun i => ws[i]?.map Prod.fst) = cs.map (fun q => some q.1) → cs'.map Prod.fst = cs.map Prod.fst → (zput ws ps cs').map Prod.fst = ws.map Prod.fst := by
  intro ps
  induction ps with
  | nil => intro ws cs cs' _ _; simp [zput]
  | cons p ps ih2 =>
    intro ws cs cs' h1 h2
    cases cs with
    | nil => simp at h1
    | cons c cs =>
      cases cs' with
      | nil => simp at h2
      | cons c' cs' =>
        simp only [List.map_cons, List.cons.injEq] at h1 h2
        rw [zput]
        have e1 : (ws.set p c').map Prod.fst = ws.map Prod.fst := by
          rw [List.map_set]
          apply List.ext_getElem?
          intro i
          by_cases hi : p = i
          · subst hi
            have h1' := h1.1
            have h2' : p < ws.length := by
              rcases Nat.lt_or_ge p ws.length with h | h
              · exact h
              · rw [List.getElem?_eq_none h] at h1'; cases h1'
            rw [List.getElem?_set_self (by simpa using h2'), List.getElem?_map, h1', h2.1]
          · rw [List.getElem?_set_ne hi]
        rw [ih2 (ws.set p c') cs cs' ?_ h2.2, e1]
        rw [← h1.2]
        apply List.map_congr_left
        intro i _
        have := congrArg (fun l => l[i]?) e1
        rw [List.getElem?_map, List.getElem?_map] at this
        exact this
theorem zput_fst (ps : List Nat) (ws wc wc' : va_W) (hC : ps.map (fun i => ws[i]?) = wc.map some) (ha : wc'.map Prod.fst = wc.map Prod.fst) : (zput ws ps wc').map Prod.fst = ws.map Prod.fst := by
  refine zput_key ps ws wc wc' ?_ ha
  have := congrArg (List.map (Option.map Prod.fst)) hC
  simpa [List.map_map, Function.comp_def] using this
theorem va_D.alike {A : Nat → Prop} {ws ws' : va_W} (h : ws'.map Prod.fst = ws.map Prod.fst) (hD : va_D A ws) : va_D A ws' := by
  have key : ∀ (k : Nat) (q : Nat × va_E), ws'[k]? = some q → ∃ q', ws[k]? = some q' ∧ q'.1 = q.1 := by
    intro k q hq
    have h1 := congrArg (fun l => l[k]?) h
    simp only [List.getElem?_map, hq, Option.map_some] at h1
    cases hw : ws[k]? with
    | none => rw [hw] at h1; cases h1
    | some q' => rw [hw] at h1; simp only [Option.map_some, Option.some.injEq] at h1; exact ⟨q', rfl, h1.symm⟩
  refine ⟨fun i j p q hi hj e => ?_, fun k q hk => ?_⟩
  · obtain ⟨p', hp', ep⟩ := key i p hi
    obtain ⟨q', hq', eq⟩ := key j q hj
    exact hD.1 i j p' q' hp' hq' (by rw [ep, eq, e])
  · obtain ⟨q', hq', e⟩ := key k q hk
    rw [← e]
    exact hD.2 k q' hq'
theorem zput_at : ∀ (ps : List Nat) (ws cs : va_W) (k : Nat) (q : Nat × va_E), (zput ws ps cs)[k]? = some q → (k ∉ ps ∧ ws[k]? = some q) ∨ (∃ j : Nat, cs[j]? = some q) ∨ (ws[k]? = some q ∧ cs.length < ps.length) := by
  intro ps
  induction ps with
  | nil => intro ws cs k q h; rw [zput] at h; exact Or.inl ⟨List.not_mem_nil, h⟩; all_goals simp
  | cons p ps ih =>
    intro ws cs k q h
    cases cs with
    | nil =>
      rw [zput] at h
      · exact Or.inr (Or.inr ⟨h, by simp⟩)
      · simp
    | cons c cs =>
      rw [zput] at h
      rcases ih (ws.set p c) cs k q h with ⟨h1, h2⟩ | ⟨j, hj⟩ | ⟨h2, h3⟩
      · by_cases hk : p = k
        · subst hk
          have h4 : p < ws.length := by
            rcases Nat.lt_or_ge p ws.length with g | g
            · exact g
            · rw [List.getElem?_eq_none (by simpa using g)] at h2; cases h2
          rw [List.getElem?_set_self h4] at h2
          exact Or.inr (Or.inl ⟨0, by simpa using h2⟩)
        · rw [List.getElem?_set_ne hk] at h2
          exact Or.inl ⟨fun hm => (List.mem_cons.mp hm).elim (fun e => hk e.symm) h1, h2⟩
      · exact Or.inr (Or.inl ⟨j + 1, by simpa using hj⟩)
      · by_cases hk : p = k
        · subst hk
          have h4 : p < ws.length := by
            rcases Nat.lt_or_ge p ws.length with g | g
            · exact g
            · rw [List.getElem?_eq_none (by simpa using g)] at h2; cases h2
          rw [List.getElem?_set_self h4] at h2
          exact Or.inr (Or.inl ⟨0, by simpa using h2⟩)
        · rw [List.getElem?_set_ne hk] at h2
          exact Or.inr (Or.inr ⟨h2, by simpa using h3⟩)
theorem zfm {α : Type} (f : Nat → Option α) : ∀ (ps : List Nat) (wc : List α), ps.map f = wc.map some → ps.filterMap f = wc := by
  intro ps
  induction ps with
  | nil => intro wc h; cases wc with
    | nil => rfl
    | cons _ _ => simp at h
  | cons p ps ih =>
    intro wc h
    cases wc with
    | nil => simp at h
    | cons c cs =>
      simp only [List.map_cons, List.cons.injEq] at h
      rw [List.filterMap_cons_some h.1, ih cs h.2]
/-- the cells at these places are the same in both -/
def zsame (ws ws' : va_W) : List Nat → Prop
  | [] => True
  | r :: rs => ws'[r]? = ws[r]? ∧ zsame ws ws' rs
theorem zsame_map {ws ws' : va_W} : ∀ {rs : List Nat}, zsame ws ws' rs → rs.map (fun i => ws'[i]?) = rs.map (fun i => ws[i]?)
  | [], _ => rfl
  | r :: rs, h => by rw [List.map_cons, List.map_cons, h.1, zsame_map h.2]
def zcov (n : Nat) (ps rs : List Nat) : Bool := (List.range n).all (fun i => ps.contains i || rs.contains i)
/-- behind a call: the callee's cells as they came back, in their places -/
theorem zback {A : Nat → Prop} {D : va_G} {cl : List vw_C} {ws wc wc' ws' : va_W} {H H1 : Heap} (hP : va_P D cl ws H) (hD : va_D A ws) (ps rs : List Nat) (hC : ps.map (fun i => ws[i]?) = wc.map some) (hC' : ps.map (fun i => ws'[i]?) = wc'.map some) (hR : rs.map (fun i => ws'[i]?) = rs.map (fun i => ws[i]?)) (n : Nat) (hn : ws'.length = n) (hcov : zcov n ps rs = true) (hf : ws'.map Prod.fst = ws.map Prod.fst) (hrs : ∀ i ∈ rs, i ∉ ps)
    (hk : ∀ q : Nat, q < H.size → ¬ va_A wc H.size q → H1[q]? = H[q]?) (hP1 : va_P D cl wc' H1) : va_P D cl ws' H1 ∧ va_D A ws' := by
  refine ⟨fun k q hq => ?_, hD.alike hf⟩
  have hk' : k < n := by
    rw [← hn]
    rcases Nat.lt_or_ge k ws'.length with h | h
    · exact h
    · rw [List.getElem?_eq_none h] at hq; cases hq
  have hc := List.all_eq_true.mp hcov k (List.mem_range.mpr hk')
  rcases Bool.or_eq_true_iff.mp hc with h1 | h1
  · have h1 : k ∈ ps := List.contains_iff_mem.mp h1
    obtain ⟨j, hj⟩ := List.getElem?_of_mem h1
    have h4 := congrArg (fun l => l[j]?) hC'
    simp only [List.getElem?_map, hj, Option.map_some] at h4
    rw [hq] at h4
    cases hw : wc'[j]? with
    | none => rw [hw] at h4; cases h4
    | some q' =>
      rw [hw] at h4
      simp only [Option.map_some, Option.some.injEq] at h4
      rw [h4]
      exact hP1 j q' hw
  · have h1 : k ∈ rs := List.contains_iff_mem.mp h1
    obtain ⟨j, hj⟩ := List.getElem?_of_mem h1
    have h4 := congrArg (fun l => l[j]?) hR
    simp only [List.getElem?_map, hj, Option.map_some] at h4
    have h2 : ws[k]? = some q := by
      have h5 := Option.some.inj h4
      rw [← h5]; exact hq
    have hat := hP k q h2
    refine hat.kept (hk q.1 hat.lt ?_)
    rintro (⟨i, e, he⟩ | hge)
    · have h4 := congrArg (fun l => l[i]?) hC
      simp only [List.getElem?_map, he, Option.map_some] at h4
      cases hpi : ps[i]? with
      | none => rw [hpi] at h4; cases h4
      | some p =>
        rw [hpi] at h4
        simp only [Option.map_some, Option.some.injEq] at h4
        have := hD.1 k p q (q.1, e) h2 h4 rfl
        exact hrs k h1 (this ▸ List.mem_of_getElem? hpi)
    · exact absurd hat.lt (Nat.not_lt.mpr hge)
