/-! THE LAW: what holds at its start -/
def subC : List Bool → Cond → Cond
  | [], c => c
  | true :: p, .and a _ => subC p a
  | false :: p, .and _ b => subC p b
  | _ :: _, c => c
theorem subC_before {args : Array Value} {s : State} : ∀ (p : List Bool) (T : Cond), T.before args s = true → (subC p T).before args s = true := by
  intro p
  induction p with
  | nil => intro T h; exact h
  | cons a p ih =>
    intro T h
    cases T with
    | and x y =>
      rw [Cond.before_and, Bool.and_eq_true] at h
      cases a with
      | true => exact ih x h.1
      | false => exact ih y h.2
    | _ => cases a <;> exact h
section
variable {s : State} {b : Nat} {A : Nat → Prop}
abbrev gvC : Cond := Cond.and given_1 narrow_1
theorem sf_UNTOLD (hts : ∀ w ∈ lw_tbl, w.before #[Value.ref b] s = true) (hgv : gvC.before #[Value.ref b] s = true) (hA : ∀ a : Nat, a < s.heap.size → ¬ A a) : zTab RX4 "UNTOLD" 13 zT_UNTOLD A s s.heap := by
  have el : ∀ j : Nat, j < 13 → (Term.elem (Term.static RX4 "UNTOLD" "[I") (.int (Int32.ofNat j))).eval #[Value.ref b] s none [] s = some (.int (zT_UNTOLD.getD j 0)) := by
    intro j hj
    have e : j = 0 ∨ j = 1 ∨ j = 2 ∨ j = 3 ∨ j = 4 ∨ j = 5 ∨ j = 6 ∨ j = 7 ∨ j = 8 ∨ j = 9 ∨ j = 10 ∨ j = 11 ∨ j = 12 := by omega
    rcases e with rfl | rfl | rfl | rfl | rfl | rfl | rfl | rfl | rfl | rfl | rfl | rfl | rfl
    · exact va_eqt (subC_before [false, true, true, true, true, true, false, true, true] gvC hgv)
    · exact va_eqt (subC_before [false, true, true, true, true, true, false, true, false] gvC hgv)
    · exact va_eqt (subC_before [false, true, true, true, true, true, false, false, true] gvC hgv)
    · exact va_eqt (subC_before [false, true, true, true, true, true, false, false, false, true] gvC hgv)
    · exact va_eqt (subC_before [false, true, true, true, true, true, false, false, false, false] gvC hgv)
    · exact va_eqt (subC_before [false, true, true, true, true, false, true, true, true] gvC hgv)
    · exact va_eqt (subC_before [false, true, true, true, true, false, true, true, false] gvC hgv)
    · exact va_eqt (subC_before [false, true, true, true, true, false, true, false, true] gvC hgv)
    · exact va_eqt (subC_before [false, true, true, true, true, false, true, false, false, true] gvC hgv)
    · exact va_eqt (subC_before [false, true, true, true, true, false, true, false, false, false] gvC hgv)
    · exact va_eqt (subC_before [false, true, true, true, true, false, false, true, true] gvC hgv)
    · exact va_eqt (subC_before [false, true, true, true, true, false, false, true, false] gvC hgv)
    · exact va_eqt (subC_before [false, true, true, true, true, false, false, false, true] gvC hgv)
  obtain ⟨t, ht, hT⟩ := va_Tof (tm := Term.static RX4 "UNTOLD" "[I") (ty := .int) (N := 13) (f := fun j => .int (zT_UNTOLD.getD j 0)) (A := A) (by decide) (subC_before [false, true, true, true, true, true, true, false, false, true] gvC hgv) (va_eqt (subC_before [false, true, true, true, true, true, true, false, false, false] gvC hgv)) el hA
  exact ⟨t, va_Zof (hts _ (tb_m2 (List.mem_of_getElem? (i := 117) rfl))) (hts _ (tb_m1 (List.mem_of_getElem? (i := 4) rfl))) ht hA, hT⟩
theorem sf_PUT_LEAST (hts : ∀ w ∈ lw_tbl, w.before #[Value.ref b] s = true) (hgv : gvC.before #[Value.ref b] s = true) (hA : ∀ a : Nat, a < s.heap.size → ¬ A a) : zTab RX7 "PUT_LEAST" 9 zT_PUT_LEAST A s s.heap := by
  have el : ∀ j : Nat, j < 9 → (Term.elem (Term.static RX7 "PUT_LEAST" "[I") (.int (Int32.ofNat j))).eval #[Value.ref b] s none [] s = some (.int (zT_PUT_LEAST.getD j 0)) := by
    intro j hj
    have e : j = 0 ∨ j = 1 ∨ j = 2 ∨ j = 3 ∨ j = 4 ∨ j = 5 ∨ j = 6 ∨ j = 7 ∨ j = 8 := by omega
    rcases e with rfl | rfl | rfl | rfl | rfl | rfl | rfl | rfl | rfl
    · exact va_eqt (subC_before [false, true, false, false, false, false, true, true, true] gvC hgv)
    · exact va_eqt (subC_before [false, true, false, false, false, false, true, true, false] gvC hgv)
    · exact va_eqt (subC_before [false, true, false, false, false, false, true, false, true] gvC hgv)
    · exact va_eqt (subC_before [false, true, false, false, false, false, true, false, false, true] gvC hgv)
    · exact va_eqt (subC_before [false, true, false, false, false, false, true, false, false, false] gvC hgv)
    · exact va_eqt (subC_before [false, true, false, false, false, false, false, true, true] gvC hgv)
    · exact va_eqt (subC_before [false, true, false, false, false, false, false, true, false, true] gvC hgv)
    · exact va_eqt (subC_before [false, true, false, false, false, false, false, true, false, false] gvC hgv)
    · exact va_eqt (subC_before [false, true, false, false, false, false, false, false, true] gvC hgv)
  obtain ⟨t, ht, hT⟩ := va_Tof (tm := Term.static RX7 "PUT_LEAST" "[I") (ty := .int) (N := 9) (f := fun j => .int (zT_PUT_LEAST.getD j 0)) (A := A) (by decide) (subC_before [false, true, false, false, false, true, false, false, false, true] gvC hgv) (va_eqt (subC_before [false, true, false, false, false, true, false, false, false, false] gvC hgv)) el hA
  exact ⟨t, va_Zof (hts _ (tb_m3 (List.mem_of_getElem? (i := 186) rfl))) (hts _ (tb_m1 (List.mem_of_getElem? (i := 7) rfl))) ht hA, hT⟩
theorem sf_PUT_MOST (hts : ∀ w ∈ lw_tbl, w.before #[Value.ref b] s = true) (hgv : gvC.before #[Value.ref b] s = true) (hA : ∀ a : Nat, a < s.heap.size → ¬ A a) : zTab RX7 "PUT_MOST" 9 zT_PUT_MOST A s s.heap := by
  have el : ∀ j : Nat, j < 9 → (Term.elem (Term.static RX7 "PUT_MOST" "[I") (.int (Int32.ofNat j))).eval #[Value.ref b] s none [] s = some (.int (zT_PUT_MOST.getD j 0)) := by
    intro j hj
    have e : j = 0 ∨ j = 1 ∨ j = 2 ∨ j = 3 ∨ j = 4 ∨ j = 5 ∨ j = 6 ∨ j = 7 ∨ j = 8 := by omega
    rcases e with rfl | rfl | rfl | rfl | rfl | rfl | rfl | rfl | rfl
    · exact va_eqt (subC_before [false, false, true, true, true, true, true, true, false] gvC hgv)
    · exact va_eqt (subC_before [false, false, true, true, true, true, true, false, true] gvC hgv)
    · exact va_eqt (subC_before [false, false, true, true, true, true, true, false, false, true] gvC hgv)
    · exact va_eqt (subC_before [false, false, true, true, true, true, true, false, false, false] gvC hgv)
    · exact va_eqt (subC_before [false, false, true, true, true, true, false, true, true] gvC hgv)
    · exact va_eqt (subC_before [false, false, true, true, true, true, false, true, false] gvC hgv)
    · exact va_eqt (subC_before [false, false, true, true, true, true, false, false, true] gvC hgv)
    · exact va_eqt (subC_before [false, false, true, true, true, true, false, false, false, true] gvC hgv)
    · exact va_eqt (subC_before [false, false, true, true, true, true, false, false, false, false] gvC hgv)
  obtain ⟨t, ht, hT⟩ := va_Tof (tm := Term.static RX7 "PUT_MOST" "[I") (ty := .int) (N := 9) (f := fun j => .int (zT_PUT_MOST.getD j 0)) (A := A) (by decide) (subC_before [false, true, false, false, false, false, false, false, false, false] gvC hgv) (va_eqt (subC_before [false, false, true, true, true, true, true, true, true] gvC hgv)) el hA
  exact ⟨t, va_Zof (hts _ (tb_m3 (List.mem_of_getElem? (i := 188) rfl))) (hts _ (tb_m1 (List.mem_of_getElem? (i := 7) rfl))) ht hA, hT⟩
theorem sf_NUMBERS_OF (hts : ∀ w ∈ lw_tbl, w.before #[Value.ref b] s = true) (hgv : gvC.before #[Value.ref b] s = true) (hA : ∀ a : Nat, a < s.heap.size → ¬ A a) : zTab RX5 "NUMBERS_OF" 11 zT_NUMBERS_OF A s s.heap := by
  have el : ∀ j : Nat, j < 11 → (Term.elem (Term.static RX5 "NUMBERS_OF" "[I") (.int (Int32.ofNat j))).eval #[Value.ref b] s none [] s = some (.int (zT_NUMBERS_OF.getD j 0)) := by
    intro j hj
    have e : j = 0 ∨ j = 1 ∨ j = 2 ∨ j = 3 ∨ j = 4 ∨ j = 5 ∨ j = 6 ∨ j = 7 ∨ j = 8 ∨ j = 9 ∨ j = 10 := by omega
    rcases e with rfl | rfl | rfl | rfl | rfl | rfl | rfl | rfl | rfl | rfl | rfl
    · exact va_eqt (subC_before [false, true, true, false, true, false, true, false, true] gvC hgv)
    · exact va_eqt (subC_before [false, true, true, false, true, false, true, false, false, true] gvC hgv)
    · exact va_eqt (subC_before [false, true, true, false, true, false, true, false, false, false] gvC hgv)
    · exact va_eqt (subC_before [false, true, true, false, true, false, false, true, true] gvC hgv)
    · exact va_eqt (subC_before [false, true, true, false, true, false, false, true, false] gvC hgv)
    · exact va_eqt (subC_before [false, true, true, false, true, false, false, false, true] gvC hgv)
    · exact va_eqt (subC_before [false, true, true, false, true, false, false, false, false, true] gvC hgv)
    · exact va_eqt (subC_before [false, true, true, false, true, false, false, false, false, false] gvC hgv)
    · exact va_eqt (subC_before [false, true, true, false, false, true, true, true, true] gvC hgv)
    · exact va_eqt (subC_before [false, true, true, false, false, true, true, true, false] gvC hgv)
    · exact va_eqt (subC_before [false, true, true, false, false, true, true, false, true] gvC hgv)
  obtain ⟨t, ht, hT⟩ := va_Tof (tm := Term.static RX5 "NUMBERS_OF" "[I") (ty := .int) (N := 11) (f := fun j => .int (zT_NUMBERS_OF.getD j 0)) (A := A) (by decide) (subC_before [false, true, true, false, true, false, true, true, true] gvC hgv) (va_eqt (subC_before [false, true, true, false, true, false, true, true, false] gvC hgv)) el hA
  exact ⟨t, va_Zof (hts _ (tb_m3 (List.mem_of_getElem? (i := 62) rfl))) (hts _ (tb_m1 (List.mem_of_getElem? (i := 3) rfl))) ht hA, hT⟩
theorem sf_TIMES_MOST (hts : ∀ w ∈ lw_tbl, w.before #[Value.ref b] s = true) (hgv : gvC.before #[Value.ref b] s = true) (hA : ∀ a : Nat, a < s.heap.size → ¬ A a) : zTab RX5 "TIMES_MOST" 11 zT_TIMES_MOST A s s.heap := by
  have el : ∀ j : Nat, j < 11 → (Term.elem (Term.static RX5 "TIMES_MOST" "[I") (.int (Int32.ofNat j))).eval #[Value.ref b] s none [] s = some (.int (zT_TIMES_MOST.getD j 0)) := by
    intro j hj
    have e : j = 0 ∨ j = 1 ∨ j = 2 ∨ j = 3 ∨ j = 4 ∨ j = 5 ∨ j = 6 ∨ j = 7 ∨ j = 8 ∨ j = 9 ∨ j = 10 := by omega
    rcases e with rfl | rfl | rfl | rfl | rfl | rfl | rfl | rfl | rfl | rfl | rfl
    · exact va_eqt (subC_before [false, true, true, true, false, false, false, false, false, true] gvC hgv)
    · exact va_eqt (subC_before [false, true, true, true, false, false, false, false, false, false] gvC hgv)
    · exact va_eqt (subC_before [false, true, true, false, true, true, true, true, true] gvC hgv)
    · exact va_eqt (subC_before [false, true, true, false, true, true, true, true, false] gvC hgv)
    · exact va_eqt (subC_before [false, true, true, false, true, true, true, false, true] gvC hgv)
    · exact va_eqt (subC_before [false, true, true, false, true, true, true, false, false, true] gvC hgv)
    · exact va_eqt (subC_before [false, true, true, false, true, true, true, false, false, false] gvC hgv)
    · exact va_eqt (subC_before [false, true, true, false, true, true, false, true, true] gvC hgv)
    · exact va_eqt (subC_before [false, true, true, false, true, true, false, true, false] gvC hgv)
    · exact va_eqt (subC_before [false, true, true, false, true, true, false, false, true] gvC hgv)
    · exact va_eqt (subC_before [false, true, true, false, true, true, false, false, false, true] gvC hgv)
  obtain ⟨t, ht, hT⟩ := va_Tof (tm := Term.static RX5 "TIMES_MOST" "[I") (ty := .int) (N := 11) (f := fun j => .int (zT_TIMES_MOST.getD j 0)) (A := A) (by decide) (subC_before [false, true, true, true, false, false, false, true, false] gvC hgv) (va_eqt (subC_before [false, true, true, true, false, false, false, false, true] gvC hgv)) el hA
  exact ⟨t, va_Zof (hts _ (tb_m3 (List.mem_of_getElem? (i := 60) rfl))) (hts _ (tb_m1 (List.mem_of_getElem? (i := 3) rfl))) ht hA, hT⟩
theorem sf_FIRST_TOLD (hts : ∀ w ∈ lw_tbl, w.before #[Value.ref b] s = true) (hgv : gvC.before #[Value.ref b] s = true) (hA : ∀ a : Nat, a < s.heap.size → ¬ A a) : zTab RX5 "FIRST_TOLD" 11 zT_FIRST_TOLD A s s.heap := by
  have el : ∀ j : Nat, j < 11 → (Term.elem (Term.static RX5 "FIRST_TOLD" "[I") (.int (Int32.ofNat j))).eval #[Value.ref b] s none [] s = some (.int (zT_FIRST_TOLD.getD j 0)) := by
    intro j hj
    have e : j = 0 ∨ j = 1 ∨ j = 2 ∨ j = 3 ∨ j = 4 ∨ j = 5 ∨ j = 6 ∨ j = 7 ∨ j = 8 ∨ j = 9 ∨ j = 10 := by omega
    rcases e with rfl | rfl | rfl | rfl | rfl | rfl | rfl | rfl | rfl | rfl | rfl
    · exact va_eqt (subC_before [false, true, false, false, true, false, false, true, false] gvC hgv)
    · exact va_eqt (subC_before [false, true, false, false, true, false, false, false, true] gvC hgv)
    · exact va_eqt (subC_before [false, true, false, false, true, false, false, false, false, true] gvC hgv)
    · exact va_eqt (subC_before [false, true, false, false, true, false, false, false, false, false] gvC hgv)
    · exact va_eqt (subC_before [false, true, false, false, false, true, true, true, true] gvC hgv)
    · exact va_eqt (subC_before [false, true, false, false, false, true, true, true, false] gvC hgv)
    · exact va_eqt (subC_before [false, true, false, false, false, true, true, false, true] gvC hgv)
    · exact va_eqt (subC_before [false, true, false, false, false, true, true, false, false, true] gvC hgv)
    · exact va_eqt (subC_before [false, true, false, false, false, true, true, false, false, false] gvC hgv)
    · exact va_eqt (subC_before [false, true, false, false, false, true, false, true, true] gvC hgv)
    · exact va_eqt (subC_before [false, true, false, false, false, true, false, true, false] gvC hgv)
  obtain ⟨t, ht, hT⟩ := va_Tof (tm := Term.static RX5 "FIRST_TOLD" "[I") (ty := .int) (N := 11) (f := fun j => .int (zT_FIRST_TOLD.getD j 0)) (A := A) (by decide) (subC_before [false, true, false, false, true, false, true, false, false, false] gvC hgv) (va_eqt (subC_before [false, true, false, false, true, false, false, true, true] gvC hgv)) el hA
  exact ⟨t, va_Zof (hts _ (tb_m3 (List.mem_of_getElem? (i := 116) rfl))) (hts _ (tb_m1 (List.mem_of_getElem? (i := 3) rfl))) ht hA, hT⟩
theorem sf_LEAST (hts : ∀ w ∈ lw_tbl, w.before #[Value.ref b] s = true) (hgv : gvC.before #[Value.ref b] s = true) (hA : ∀ a : Nat, a < s.heap.size → ¬ A a) : zTab RX5 "LEAST" 33 zT_LEAST A s s.heap := by
  have el : ∀ j : Nat, j < 33 → (Term.elem (Term.static RX5 "LEAST" "[I") (.int (Int32.ofNat j))).eval #[Value.ref b] s none [] s = some (.int (zT_LEAST.getD j 0)) := by
    intro j hj
    have e : j = 0 ∨ j = 1 ∨ j = 2 ∨ j = 3 ∨ j = 4 ∨ j = 5 ∨ j = 6 ∨ j = 7 ∨ j = 8 ∨ j = 9 ∨ j = 10 ∨ j = 11 ∨ j = 12 ∨ j = 13 ∨ j = 14 ∨ j = 15 ∨ j = 16 ∨ j = 17 ∨ j = 18 ∨ j = 19 ∨ j = 20 ∨ j = 21 ∨ j = 22 ∨ j = 23 ∨ j = 24 ∨ j = 25 ∨ j = 26 ∨ j = 27 ∨ j = 28 ∨ j = 29 ∨ j = 30 ∨ j = 31 ∨ j = 32 := by omega
    rcases e with rfl | rfl | rfl | rfl | rfl | rfl | rfl | rfl | rfl | rfl | rfl | rfl | rfl | rfl | rfl | rfl | rfl | rfl | rfl | rfl | rfl | rfl | rfl | rfl | rfl | rfl | rfl | rfl | rfl | rfl | rfl | rfl | rfl
    · exact va_eqt (subC_before [false, true, true, false, false, true, false, true, false] gvC hgv)
    · exact va_eqt (subC_before [false, true, true, false, false, true, false, false, true] gvC hgv)
    · exact va_eqt (subC_before [false, true, true, false, false, true, false, false, false, true] gvC hgv)
    · exact va_eqt (subC_before [false, true, true, false, false, true, false, false, false, false] gvC hgv)
    · exact va_eqt (subC_before [false, true, true, false, false, false, true, true, true] gvC hgv)
    · exact va_eqt (subC_before [false, true, true, false, false, false, true, true, false] gvC hgv)
    · exact va_eqt (subC_before [false, true, true, false, false, false, true, false, true] gvC hgv)
    · exact va_eqt (subC_before [false, true, true, false, false, false, true, false, false, true] gvC hgv)
    · exact va_eqt (subC_before [false, true, true, false, false, false, true, false, false, false] gvC hgv)
    · exact va_eqt (subC_before [false, true, true, false, false, false, false, true, true] gvC hgv)
    · exact va_eqt (subC_before [false, true, true, false, false, false, false, true, false, true] gvC hgv)
    · exact va_eqt (subC_before [false, true, true, false, false, false, false, true, false, false] gvC hgv)
    · exact va_eqt (subC_before [false, true, true, false, false, false, false, false, true] gvC hgv)
    · exact va_eqt (subC_before [false, true, true, false, false, false, false, false, false, true] gvC hgv)
    · exact va_eqt (subC_before [false, true, true, false, false, false, false, false, false, false] gvC hgv)
    · exact va_eqt (subC_before [false, true, false, true, true, true, true, true, true] gvC hgv)
    · exact va_eqt (subC_before [false, true, false, true, true, true, true, true, false] gvC hgv)
    · exact va_eqt (subC_before [false, true, false, true, true, true, true, false, true] gvC hgv)
    · exact va_eqt (subC_before [false, true, false, true, true, true, true, false, false, true] gvC hgv)
    · exact va_eqt (subC_before [false, true, false, true, true, true, true, false, false, false] gvC hgv)
    · exact va_eqt (subC_before [false, true, false, true, true, true, false, true, true] gvC hgv)
    · exact va_eqt (subC_before [false, true, false, true, true, true, false, true, false] gvC hgv)
    · exact va_eqt (subC_before [false, true, false, true, true, true, false, false, true] gvC hgv)
    · exact va_eqt (subC_before [false, true, false, true, true, true, false, false, false, true] gvC hgv)
    · exact va_eqt (subC_before [false, true, false, true, true, true, false, false, false, false] gvC hgv)
    · exact va_eqt (subC_before [false, true, false, true, true, false, true, true, true] gvC hgv)
    · exact va_eqt (subC_before [false, true, false, true, true, false, true, true, false] gvC hgv)
    · exact va_eqt (subC_before [false, true, false, true, true, false, true, false, true] gvC hgv)
    · exact va_eqt (subC_before [false, true, false, true, true, false, true, false, false, true] gvC hgv)
    · exact va_eqt (subC_before [false, true, false, true, true, false, true, false, false, false] gvC hgv)
    · exact va_eqt (subC_before [false, true, false, true, true, false, false, true, true] gvC hgv)
    · exact va_eqt (subC_before [false, true, false, true, true, false, false, true, false] gvC hgv)
    · exact va_eqt (subC_before [false, true, false, true, true, false, false, false, true] gvC hgv)
  obtain ⟨t, ht, hT⟩ := va_Tof (tm := Term.static RX5 "LEAST" "[I") (ty := .int) (N := 33) (f := fun j => .int (zT_LEAST.getD j 0)) (A := A) (by decide) (subC_before [false, true, true, false, false, true, true, false, false, false] gvC hgv) (va_eqt (subC_before [false, true, true, false, false, true, false, true, true] gvC hgv)) el hA
  exact ⟨t, va_Zof (hts _ (tb_m3 (List.mem_of_getElem? (i := 80) rfl))) (hts _ (tb_m1 (List.mem_of_getElem? (i := 3) rfl))) ht hA, hT⟩
theorem sf_MOST (hts : ∀ w ∈ lw_tbl, w.before #[Value.ref b] s = true) (hgv : gvC.before #[Value.ref b] s = true) (hA : ∀ a : Nat, a < s.heap.size → ¬ A a) : zTab RX5 "MOST" 33 zT_MOST A s s.heap := by
  have el : ∀ j : Nat, j < 33 → (Term.elem (Term.static RX5 "MOST" "[I") (.int (Int32.ofNat j))).eval #[Value.ref b] s none [] s = some (.int (zT_MOST.getD j 0)) := by
    intro j hj
    have e : j = 0 ∨ j = 1 ∨ j = 2 ∨ j = 3 ∨ j = 4 ∨ j = 5 ∨ j = 6 ∨ j = 7 ∨ j = 8 ∨ j = 9 ∨ j = 10 ∨ j = 11 ∨ j = 12 ∨ j = 13 ∨ j = 14 ∨ j = 15 ∨ j = 16 ∨ j = 17 ∨ j = 18 ∨ j = 19 ∨ j = 20 ∨ j = 21 ∨ j = 22 ∨ j = 23 ∨ j = 24 ∨ j = 25 ∨ j = 26 ∨ j = 27 ∨ j = 28 ∨ j = 29 ∨ j = 30 ∨ j = 31 ∨ j = 32 := by omega
    rcases e with rfl | rfl | rfl | rfl | rfl | rfl | rfl | rfl | rfl | rfl | rfl | rfl | rfl | rfl | rfl | rfl | rfl | rfl | rfl | rfl | rfl | rfl | rfl | rfl | rfl | rfl | rfl | rfl | rfl | rfl | rfl | rfl | rfl
    · exact va_eqt (subC_before [false, true, false, true, false, true, true, true, false] gvC hgv)
    · exact va_eqt (subC_before [false, true, false, true, false, true, true, false, true] gvC hgv)
    · exact va_eqt (subC_before [false, true, false, true, false, true, true, false, false, true] gvC hgv)
    · exact va_eqt (subC_before [false, true, false, true, false, true, true, false, false, false] gvC hgv)
    · exact va_eqt (subC_before [false, true, false, true, false, true, false, true, true] gvC hgv)
    · exact va_eqt (subC_before [false, true, false, true, false, true, false, true, false] gvC hgv)
    · exact va_eqt (subC_before [false, true, false, true, false, true, false, false, true] gvC hgv)
    · exact va_eqt (subC_before [false, true, false, true, false, true, false, false, false, true] gvC hgv)
    · exact va_eqt (subC_before [false, true, false, true, false, true, false, false, false, false] gvC hgv)
    · exact va_eqt (subC_before [false, true, false, true, false, false, true, true, true] gvC hgv)
    · exact va_eqt (subC_before [false, true, false, true, false, false, true, true, false] gvC hgv)
    · exact va_eqt (subC_before [false, true, false, true, false, false, true, false, true] gvC hgv)
    · exact va_eqt (subC_before [false, true, false, true, false, false, true, false, false, true] gvC hgv)
    · exact va_eqt (subC_before [false, true, false, true, false, false, true, false, false, false] gvC hgv)
    · exact va_eqt (subC_before [false, true, false, true, false, false, false, true, true] gvC hgv)
    · exact va_eqt (subC_before [false, true, false, true, false, false, false, true, false, true] gvC hgv)
    · exact va_eqt (subC_before [false, true, false, true, false, false, false, true, false, false] gvC hgv)
    · exact va_eqt (subC_before [false, true, false, true, false, false, false, false, true] gvC hgv)
    · exact va_eqt (subC_before [false, true, false, true, false, false, false, false, false, true] gvC hgv)
    · exact va_eqt (subC_before [false, true, false, true, false, false, false, false, false, false] gvC hgv)
    · exact va_eqt (subC_before [false, true, false, false, true, true, true, true, true] gvC hgv)
    · exact va_eqt (subC_before [false, true, false, false, true, true, true, true, false] gvC hgv)
    · exact va_eqt (subC_before [false, true, false, false, true, true, true, false, true] gvC hgv)
    · exact va_eqt (subC_before [false, true, false, false, true, true, true, false, false, true] gvC hgv)
    · exact va_eqt (subC_before [false, true, false, false, true, true, true, false, false, false] gvC hgv)
    · exact va_eqt (subC_before [false, true, false, false, true, true, false, true, true] gvC hgv)
    · exact va_eqt (subC_before [false, true, false, false, true, true, false, true, false] gvC hgv)
    · exact va_eqt (subC_before [false, true, false, false, true, true, false, false, true] gvC hgv)
    · exact va_eqt (subC_before [false, true, false, false, true, true, false, false, false, true] gvC hgv)
    · exact va_eqt (subC_before [false, true, false, false, true, true, false, false, false, false] gvC hgv)
    · exact va_eqt (subC_before [false, true, false, false, true, false, true, true, true] gvC hgv)
    · exact va_eqt (subC_before [false, true, false, false, true, false, true, true, false] gvC hgv)
    · exact va_eqt (subC_before [false, true, false, false, true, false, true, false, true] gvC hgv)
  obtain ⟨t, ht, hT⟩ := va_Tof (tm := Term.static RX5 "MOST" "[I") (ty := .int) (N := 33) (f := fun j => .int (zT_MOST.getD j 0)) (A := A) (by decide) (subC_before [false, true, false, true, true, false, false, false, false, false] gvC hgv) (va_eqt (subC_before [false, true, false, true, false, true, true, true, true] gvC hgv)) el hA
  exact ⟨t, va_Zof (hts _ (tb_m3 (List.mem_of_getElem? (i := 82) rfl))) (hts _ (tb_m1 (List.mem_of_getElem? (i := 3) rfl))) ht hA, hT⟩
theorem sf_FIRST_CLAUSE (hts : ∀ w ∈ lw_tbl, w.before #[Value.ref b] s = true) (hgv : gvC.before #[Value.ref b] s = true) (hA : ∀ a : Nat, a < s.heap.size → ¬ A a) : zTab RX5 "FIRST_CLAUSE" 3 zT_FIRST_CLAUSE A s s.heap := by
  have el : ∀ j : Nat, j < 3 → (Term.elem (Term.static RX5 "FIRST_CLAUSE" "[I") (.int (Int32.ofNat j))).eval #[Value.ref b] s none [] s = some (.int (zT_FIRST_CLAUSE.getD j 0)) := by
    intro j hj
    have e : j = 0 ∨ j = 1 ∨ j = 2 := by omega
    rcases e with rfl | rfl | rfl
    · exact va_eqt (subC_before [false, true, true, true, false, true, true, true, false] gvC hgv)
    · exact va_eqt (subC_before [false, true, true, true, false, true, true, false, true] gvC hgv)
    · exact va_eqt (subC_before [false, true, true, true, false, true, true, false, false, true] gvC hgv)
  obtain ⟨t, ht, hT⟩ := va_Tof (tm := Term.static RX5 "FIRST_CLAUSE" "[I") (ty := .int) (N := 3) (f := fun j => .int (zT_FIRST_CLAUSE.getD j 0)) (A := A) (by decide) (subC_before [false, true, true, true, true, false, false, false, false, false] gvC hgv) (va_eqt (subC_before [false, true, true, true, false, true, true, true, true] gvC hgv)) el hA
  exact ⟨t, va_Zof (hts _ (tb_m2 (List.mem_of_getElem? (i := 226) rfl))) (hts _ (tb_m1 (List.mem_of_getElem? (i := 3) rfl))) ht hA, hT⟩
theorem sf_LAST_CLAUSE (hts : ∀ w ∈ lw_tbl, w.before #[Value.ref b] s = true) (hgv : gvC.before #[Value.ref b] s = true) (hA : ∀ a : Nat, a < s.heap.size → ¬ A a) : zTab RX5 "LAST_CLAUSE" 3 zT_LAST_CLAUSE A s s.heap := by
  have el : ∀ j : Nat, j < 3 → (Term.elem (Term.static RX5 "LAST_CLAUSE" "[I") (.int (Int32.ofNat j))).eval #[Value.ref b] s none [] s = some (.int (zT_LAST_CLAUSE.getD j 0)) := by
    intro j hj
    have e : j = 0 ∨ j = 1 ∨ j = 2 := by omega
    rcases e with rfl | rfl | rfl
    · exact va_eqt (subC_before [false, true, true, true, false, true, false, false, true] gvC hgv)
    · exact va_eqt (subC_before [false, true, true, true, false, true, false, false, false, true] gvC hgv)
    · exact va_eqt (subC_before [false, true, true, true, false, true, false, false, false, false] gvC hgv)
  obtain ⟨t, ht, hT⟩ := va_Tof (tm := Term.static RX5 "LAST_CLAUSE" "[I") (ty := .int) (N := 3) (f := fun j => .int (zT_LAST_CLAUSE.getD j 0)) (A := A) (by decide) (subC_before [false, true, true, true, false, true, false, true, true] gvC hgv) (va_eqt (subC_before [false, true, true, true, false, true, false, true, false] gvC hgv)) el hA
  exact ⟨t, va_Zof (hts _ (tb_m2 (List.mem_of_getElem? (i := 228) rfl))) (hts _ (tb_m1 (List.mem_of_getElem? (i := 3) rfl))) ht hA, hT⟩
def tmI : List Nat := [151, 153, 155, 157, 159, 161, 163, 165, 167, 169, 170]
def tmS (i : Nat) : Term := .string RX5 (tmI.getD i 0)
theorem sf_str (hgv : gvC.before #[Value.ref b] s = true) (hA : ∀ a : Nat, a < s.heap.size → ¬ A a) : ∃ adK adV : Nat → Nat, vk_S 11 zLen zByt adK adV A s s.heap ∧ ∀ i : Nat, i < 11 → (tmS i).eval #[Value.ref b] s none [] s = some (.ref (adK i)) := by
  refine vk_Sof (tm := tmS) ?_ ?_ ?_ ?_ ?_ ?_ ?_ hA
  · intro i hi
    have e : i = 0 ∨ i = 1 ∨ i = 2 ∨ i = 3 ∨ i = 4 ∨ i = 5 ∨ i = 6 ∨ i = 7 ∨ i = 8 ∨ i = 9 ∨ i = 10 := by omega
    rcases e with rfl | rfl | rfl | rfl | rfl | rfl | rfl | rfl | rfl | rfl | rfl
    all_goals decide
  · intro i hi
    have e : i = 0 ∨ i = 1 ∨ i = 2 ∨ i = 3 ∨ i = 4 ∨ i = 5 ∨ i = 6 ∨ i = 7 ∨ i = 8 ∨ i = 9 ∨ i = 10 := by omega
    rcases e with rfl | rfl | rfl | rfl | rfl | rfl | rfl | rfl | rfl | rfl | rfl
    · exact subC_before [false, false, true, true, true, false, true, true, true] gvC hgv
    · exact subC_before [false, false, true, true, true, false, false, false, true] gvC hgv
    · exact subC_before [false, false, true, true, false, true, false, true, false] gvC hgv
    · exact subC_before [false, false, true, true, false, false, false, true, false, true] gvC hgv
    · exact subC_before [false, false, true, false, true, true, false, false, true] gvC hgv
    · exact subC_before [false, false, true, false, false, true, true, true, true] gvC hgv
    · exact subC_before [false, false, true, false, false, false, true, false, false, true] gvC hgv
    · exact subC_before [false, false, false, true, true, true, false, true, false] gvC hgv
    · exact subC_before [false, false, false, true, false, true, true, true, false] gvC hgv
    · exact subC_before [false, false, false, true, false, false, false, false, false, true] gvC hgv
    · exact subC_before [false, false, false, false, true, false, true, false, false, true] gvC hgv
  · intro i hi
    have e : i = 0 ∨ i = 1 ∨ i = 2 ∨ i = 3 ∨ i = 4 ∨ i = 5 ∨ i = 6 ∨ i = 7 ∨ i = 8 ∨ i = 9 ∨ i = 10 := by omega
    rcases e with rfl | rfl | rfl | rfl | rfl | rfl | rfl | rfl | rfl | rfl | rfl
    · exact subC_before [false, false, true, true, true, false, true, true, false] gvC hgv
    · exact subC_before [false, false, true, true, true, false, false, false, false, true] gvC hgv
    · exact subC_before [false, false, true, true, false, true, false, false, true] gvC hgv
    · exact subC_before [false, false, true, true, false, false, false, true, false, false] gvC hgv
    · exact subC_before [false, false, true, false, true, true, false, false, false, true] gvC hgv
    · exact subC_before [false, false, true, false, false, true, true, true, false] gvC hgv
    · exact subC_before [false, false, true, false, false, false, true, false, false, false] gvC hgv
    · exact subC_before [false, false, false, true, true, true, false, false, true] gvC hgv
    · exact subC_before [false, false, false, true, false, true, true, false, true] gvC hgv
    · exact subC_before [false, false, false, true, false, false, false, false, false, false] gvC hgv
    · exact subC_before [false, false, false, false, true, false, true, false, false, false] gvC hgv
  · intro i hi
    have e : i = 0 ∨ i = 1 ∨ i = 2 ∨ i = 3 ∨ i = 4 ∨ i = 5 ∨ i = 6 ∨ i = 7 ∨ i = 8 ∨ i = 9 ∨ i = 10 := by omega
    rcases e with rfl | rfl | rfl | rfl | rfl | rfl | rfl | rfl | rfl | rfl | rfl
    · exact subC_before [false, false, true, true, true, false, true, false, true] gvC hgv
    · exact subC_before [false, false, true, true, true, false, false, false, false, false] gvC hgv
    · exact subC_before [false, false, true, true, false, true, false, false, false, true] gvC hgv
    · exact subC_before [false, false, true, true, false, false, false, false, true] gvC hgv
    · exact subC_before [false, false, true, false, true, true, false, false, false, false] gvC hgv
    · exact subC_before [false, false, true, false, false, true, true, false, true] gvC hgv
    · exact subC_before [false, false, true, false, false, false, false, true, true] gvC hgv
    · exact subC_before [false, false, false, true, true, true, false, false, false, true] gvC hgv
    · exact subC_before [false, false, false, true, false, true, true, false, false, true] gvC hgv
    · exact subC_before [false, false, false, false, true, true, true, true, true] gvC hgv
    · exact subC_before [false, false, false, false, true, false, false, true, true] gvC hgv
  · intro i hi
    have e : i = 0 ∨ i = 1 ∨ i = 2 ∨ i = 3 ∨ i = 4 ∨ i = 5 ∨ i = 6 ∨ i = 7 ∨ i = 8 ∨ i = 9 ∨ i = 10 := by omega
    rcases e with rfl | rfl | rfl | rfl | rfl | rfl | rfl | rfl | rfl | rfl | rfl
    · exact subC_before [false, false, true, true, true, false, true, false, false, true] gvC hgv
    · exact subC_before [false, false, true, true, false, true, true, true, true] gvC hgv
    · exact subC_before [false, false, true, true, false, true, false, false, false, false] gvC hgv
    · exact subC_before [false, false, true, true, false, false, false, false, false, true] gvC hgv
    · exact subC_before [false, false, true, false, true, false, true, true, true] gvC hgv
    · exact subC_before [false, false, true, false, false, true, true, false, false, true] gvC hgv
    · exact subC_before [false, false, true, false, false, false, false, true, false, true] gvC hgv
    · exact subC_before [false, false, false, true, true, true, false, false, false, false] gvC hgv
    · exact subC_before [false, false, false, true, false, true, true, false, false, false] gvC hgv
    · exact subC_before [false, false, false, false, true, true, true, true, false] gvC hgv
    · exact subC_before [false, false, false, false, true, false, false, true, false] gvC hgv
  · intro i hi j hj
    have e : i = 0 ∨ i = 1 ∨ i = 2 ∨ i = 3 ∨ i = 4 ∨ i = 5 ∨ i = 6 ∨ i = 7 ∨ i = 8 ∨ i = 9 ∨ i = 10 := by omega
    rcases e with rfl | rfl | rfl | rfl | rfl | rfl | rfl | rfl | rfl | rfl | rfl
    · have hj : j < 3 := hj
      have e : j = 0 ∨ j = 1 ∨ j = 2 := by omega
      rcases e with rfl | rfl | rfl
      · exact subC_before [false, false, true, true, true, false, true, false, false, false] gvC hgv
      · exact subC_before [false, false, true, true, true, false, false, true, true] gvC hgv
      · exact subC_before [false, false, true, true, true, false, false, true, false] gvC hgv
    · have hj : j < 4 := hj
      have e : j = 0 ∨ j = 1 ∨ j = 2 ∨ j = 3 := by omega
      rcases e with rfl | rfl | rfl | rfl
      · exact subC_before [false, false, true, true, false, true, true, true, false] gvC hgv
      · exact subC_before [false, false, true, true, false, true, true, false, true] gvC hgv
      · exact subC_before [false, false, true, true, false, true, true, false, false, true] gvC hgv
      · exact subC_before [false, false, true, true, false, true, true, false, false, false] gvC hgv
    · have hj : j < 4 := hj
      have e : j = 0 ∨ j = 1 ∨ j = 2 ∨ j = 3 := by omega
      rcases e with rfl | rfl | rfl | rfl
      · exact subC_before [false, false, true, true, false, false, true, true, true] gvC hgv
      · exact subC_before [false, false, true, true, false, false, true, true, false] gvC hgv
      · exact subC_before [false, false, true, true, false, false, true, false, true] gvC hgv
      · exact subC_before [false, false, true, true, false, false, true, false, false, true] gvC hgv
    · have hj : j < 5 := hj
      have e : j = 0 ∨ j = 1 ∨ j = 2 ∨ j = 3 ∨ j = 4 := by omega
      rcases e with rfl | rfl | rfl | rfl | rfl
      · exact subC_before [false, false, true, true, false, false, false, false, false, false] gvC hgv
      · exact subC_before [false, false, true, false, true, true, true, true, true] gvC hgv
      · exact subC_before [false, false, true, false, true, true, true, true, false] gvC hgv
      · exact subC_before [false, false, true, false, true, true, true, false, true] gvC hgv
      · exact subC_before [false, false, true, false, true, true, true, false, false, true] gvC hgv
    · have hj : j < 5 := hj
      have e : j = 0 ∨ j = 1 ∨ j = 2 ∨ j = 3 ∨ j = 4 := by omega
      rcases e with rfl | rfl | rfl | rfl | rfl
      · exact subC_before [false, false, true, false, true, false, true, true, false] gvC hgv
      · exact subC_before [false, false, true, false, true, false, true, false, true] gvC hgv
      · exact subC_before [false, false, true, false, true, false, true, false, false, true] gvC hgv
      · exact subC_before [false, false, true, false, true, false, true, false, false, false] gvC hgv
      · exact subC_before [false, false, true, false, true, false, false, true, true] gvC hgv
    · have hj : j < 4 := hj
      have e : j = 0 ∨ j = 1 ∨ j = 2 ∨ j = 3 := by omega
      rcases e with rfl | rfl | rfl | rfl
      · exact subC_before [false, false, true, false, false, true, true, false, false, false] gvC hgv
      · exact subC_before [false, false, true, false, false, true, false, true, true] gvC hgv
      · exact subC_before [false, false, true, false, false, true, false, true, false] gvC hgv
      · exact subC_before [false, false, true, false, false, true, false, false, true] gvC hgv
    · have hj : j < 4 := hj
      have e : j = 0 ∨ j = 1 ∨ j = 2 ∨ j = 3 := by omega
      rcases e with rfl | rfl | rfl | rfl
      · exact subC_before [false, false, true, false, false, false, false, true, false, false] gvC hgv
      · exact subC_before [false, false, true, false, false, false, false, false, true] gvC hgv
      · exact subC_before [false, false, true, false, false, false, false, false, false, true] gvC hgv
      · exact subC_before [false, false, true, false, false, false, false, false, false, false] gvC hgv
    · have hj : j < 4 := hj
      have e : j = 0 ∨ j = 1 ∨ j = 2 ∨ j = 3 := by omega
      rcases e with rfl | rfl | rfl | rfl
      · exact subC_before [false, false, false, true, true, false, true, true, true] gvC hgv
      · exact subC_before [false, false, false, true, true, false, true, true, false] gvC hgv
      · exact subC_before [false, false, false, true, true, false, true, false, true] gvC hgv
      · exact subC_before [false, false, false, true, true, false, true, false, false, true] gvC hgv
    · have hj : j < 6 := hj
      have e : j = 0 ∨ j = 1 ∨ j = 2 ∨ j = 3 ∨ j = 4 ∨ j = 5 := by omega
      rcases e with rfl | rfl | rfl | rfl | rfl | rfl
      · exact subC_before [false, false, false, true, false, true, false, true, true] gvC hgv
      · exact subC_before [false, false, false, true, false, true, false, true, false] gvC hgv
      · exact subC_before [false, false, false, true, false, true, false, false, true] gvC hgv
      · exact subC_before [false, false, false, true, false, true, false, false, false, true] gvC hgv
      · exact subC_before [false, false, false, true, false, true, false, false, false, false] gvC hgv
      · exact subC_before [false, false, false, true, false, false, true, true, true] gvC hgv
    · have hj : j < 2 := hj
      have e : j = 0 ∨ j = 1 := by omega
      rcases e with rfl | rfl
      · exact subC_before [false, false, false, false, true, true, true, false, true] gvC hgv
      · exact subC_before [false, false, false, false, true, true, true, false, false, true] gvC hgv
    · have hj : j < 4 := hj
      have e : j = 0 ∨ j = 1 ∨ j = 2 ∨ j = 3 := by omega
      rcases e with rfl | rfl | rfl | rfl
      · exact subC_before [false, false, false, false, true, false, false, false, true] gvC hgv
      · exact subC_before [false, false, false, false, true, false, false, false, false, true] gvC hgv
      · exact subC_before [false, false, false, false, true, false, false, false, false, false] gvC hgv
      · exact subC_before [false, false, false, false, false, true, true, true, true] gvC hgv
  · intro i j hi hj hij
    have e : i = 0 ∨ i = 1 ∨ i = 2 ∨ i = 3 ∨ i = 4 ∨ i = 5 ∨ i = 6 ∨ i = 7 ∨ i = 8 ∨ i = 9 ∨ i = 10 := by omega
    rcases e with rfl | rfl | rfl | rfl | rfl | rfl | rfl | rfl | rfl | rfl | rfl
    · have e : j = 1 ∨ j = 2 ∨ j = 3 ∨ j = 4 ∨ j = 5 ∨ j = 6 ∨ j = 7 ∨ j = 8 ∨ j = 9 ∨ j = 10 := by omega
      rcases e with rfl | rfl | rfl | rfl | rfl | rfl | rfl | rfl | rfl | rfl
      · exact Or.inl (subC_before [false, false, true, true, false, true, false, true, true] gvC hgv)
      · exact Or.inl (subC_before [false, false, true, true, false, false, true, false, false, false] gvC hgv)
      · exact Or.inl (subC_before [false, false, true, false, true, true, true, false, false, false] gvC hgv)
      · exact Or.inl (subC_before [false, false, true, false, true, false, false, true, false] gvC hgv)
      · exact Or.inl (subC_before [false, false, true, false, false, true, false, false, false, true] gvC hgv)
      · exact Or.inl (subC_before [false, false, false, true, true, true, true, true, true] gvC hgv)
      · exact Or.inl (subC_before [false, false, false, true, true, false, true, false, false, false] gvC hgv)
      · exact Or.inl (subC_before [false, false, false, true, false, false, true, true, false] gvC hgv)
      · exact Or.inl (subC_before [false, false, false, false, true, true, true, false, false, false] gvC hgv)
      · exact Or.inl (subC_before [false, false, false, false, false, true, true, true, false] gvC hgv)
    · have e : j = 0 ∨ j = 2 ∨ j = 3 ∨ j = 4 ∨ j = 5 ∨ j = 6 ∨ j = 7 ∨ j = 8 ∨ j = 9 ∨ j = 10 := by omega
      rcases e with rfl | rfl | rfl | rfl | rfl | rfl | rfl | rfl | rfl | rfl
      · exact Or.inr (subC_before [false, false, true, true, false, true, false, true, true] gvC hgv)
      · exact Or.inl (subC_before [false, false, true, true, false, false, false, true, true] gvC hgv)
      · exact Or.inl (subC_before [false, false, true, false, true, true, false, true, true] gvC hgv)
      · exact Or.inl (subC_before [false, false, true, false, true, false, false, false, true] gvC hgv)
      · exact Or.inl (subC_before [false, false, true, false, false, true, false, false, false, false] gvC hgv)
      · exact Or.inl (subC_before [false, false, false, true, true, true, true, true, false] gvC hgv)
      · exact Or.inl (subC_before [false, false, false, true, true, false, false, true, true] gvC hgv)
      · exact Or.inl (subC_before [false, false, false, true, false, false, true, false, true] gvC hgv)
      · exact Or.inl (subC_before [false, false, false, false, true, true, false, true, true] gvC hgv)
      · exact Or.inl (subC_before [false, false, false, false, false, true, true, false, true] gvC hgv)
    · have e : j = 0 ∨ j = 1 ∨ j = 3 ∨ j = 4 ∨ j = 5 ∨ j = 6 ∨ j = 7 ∨ j = 8 ∨ j = 9 ∨ j = 10 := by omega
      rcases e with rfl | rfl | rfl | rfl | rfl | rfl | rfl | rfl | rfl | rfl
      · exact Or.inr (subC_before [false, false, true, true, false, false, true, false, false, false] gvC hgv)
      · exact Or.inr (subC_before [false, false, true, true, false, false, false, true, true] gvC hgv)
      · exact Or.inl (subC_before [false, false, true, false, true, true, false, true, false] gvC hgv)
      · exact Or.inl (subC_before [false, false, true, false, true, false, false, false, false, true] gvC hgv)
      · exact Or.inl (subC_before [false, false, true, false, false, false, true, true, true] gvC hgv)
      · exact Or.inl (subC_before [false, false, false, true, true, true, true, false, true] gvC hgv)
      · exact Or.inl (subC_before [false, false, false, true, true, false, false, true, false] gvC hgv)
      · exact Or.inl (subC_before [false, false, false, true, false, false, true, false, false, true] gvC hgv)
      · exact Or.inl (subC_before [false, false, false, false, true, true, false, true, false] gvC hgv)
      · exact Or.inl (subC_before [false, false, false, false, false, true, true, false, false, true] gvC hgv)
    · have e : j = 0 ∨ j = 1 ∨ j = 2 ∨ j = 4 ∨ j = 5 ∨ j = 6 ∨ j = 7 ∨ j = 8 ∨ j = 9 ∨ j = 10 := by omega
      rcases e with rfl | rfl | rfl | rfl | rfl | rfl | rfl | rfl | rfl | rfl
      · exact Or.inr (subC_before [false, false, true, false, true, true, true, false, false, false] gvC hgv)
      · exact Or.inr (subC_before [false, false, true, false, true, true, false, true, true] gvC hgv)
      · exact Or.inr (subC_before [false, false, true, false, true, true, false, true, false] gvC hgv)
      · exact Or.inl (subC_before [false, false, true, false, true, false, false, false, false, false] gvC hgv)
      · exact Or.inl (subC_before [false, false, true, false, false, false, true, true, false] gvC hgv)
      · exact Or.inl (subC_before [false, false, false, true, true, true, true, false, false, true] gvC hgv)
      · exact Or.inl (subC_before [false, false, false, true, true, false, false, false, true] gvC hgv)
      · exact Or.inl (subC_before [false, false, false, true, false, false, true, false, false, false] gvC hgv)
      · exact Or.inl (subC_before [false, false, false, false, true, true, false, false, true] gvC hgv)
      · exact Or.inl (subC_before [false, false, false, false, false, true, true, false, false, false] gvC hgv)
    · have e : j = 0 ∨ j = 1 ∨ j = 2 ∨ j = 3 ∨ j = 5 ∨ j = 6 ∨ j = 7 ∨ j = 8 ∨ j = 9 ∨ j = 10 := by omega
      rcases e with rfl | rfl | rfl | rfl | rfl | rfl | rfl | rfl | rfl | rfl
      · exact Or.inr (subC_before [false, false, true, false, true, false, false, true, false] gvC hgv)
      · exact Or.inr (subC_before [false, false, true, false, true, false, false, false, true] gvC hgv)
      · exact Or.inr (subC_before [false, false, true, false, true, false, false, false, false, true] gvC hgv)
      · exact Or.inr (subC_before [false, false, true, false, true, false, false, false, false, false] gvC hgv)
      · exact Or.inl (subC_before [false, false, true, false, false, false, true, false, true] gvC hgv)
      · exact Or.inl (subC_before [false, false, false, true, true, true, true, false, false, false] gvC hgv)
      · exact Or.inl (subC_before [false, false, false, true, true, false, false, false, false, true] gvC hgv)
      · exact Or.inl (subC_before [false, false, false, true, false, false, false, true, true] gvC hgv)
      · exact Or.inl (subC_before [false, false, false, false, true, true, false, false, false, true] gvC hgv)
      · exact Or.inl (subC_before [false, false, false, false, false, true, false, true, true] gvC hgv)
    · have e : j = 0 ∨ j = 1 ∨ j = 2 ∨ j = 3 ∨ j = 4 ∨ j = 6 ∨ j = 7 ∨ j = 8 ∨ j = 9 ∨ j = 10 := by omega
      rcases e with rfl | rfl | rfl | rfl | rfl | rfl | rfl | rfl | rfl | rfl
      · exact Or.inr (subC_before [false, false, true, false, false, true, false, false, false, true] gvC hgv)
      · exact Or.inr (subC_before [false, false, true, false, false, true, false, false, false, false] gvC hgv)
      · exact Or.inr (subC_before [false, false, true, false, false, false, true, true, true] gvC hgv)
      · exact Or.inr (subC_before [false, false, true, false, false, false, true, true, false] gvC hgv)
      · exact Or.inr (subC_before [false, false, true, false, false, false, true, false, true] gvC hgv)
      · exact Or.inl (subC_before [false, false, false, true, true, true, false, true, true] gvC hgv)
      · exact Or.inl (subC_before [false, false, false, true, true, false, false, false, false, false] gvC hgv)
      · exact Or.inl (subC_before [false, false, false, true, false, false, false, true, false, true] gvC hgv)
      · exact Or.inl (subC_before [false, false, false, false, true, true, false, false, false, false] gvC hgv)
      · exact Or.inl (subC_before [false, false, false, false, false, true, false, true, false] gvC hgv)
    · have e : j = 0 ∨ j = 1 ∨ j = 2 ∨ j = 3 ∨ j = 4 ∨ j = 5 ∨ j = 7 ∨ j = 8 ∨ j = 9 ∨ j = 10 := by omega
      rcases e with rfl | rfl | rfl | rfl | rfl | rfl | rfl | rfl | rfl | rfl
      · exact Or.inr (subC_before [false, false, false, true, true, true, true, true, true] gvC hgv)
      · exact Or.inr (subC_before [false, false, false, true, true, true, true, true, false] gvC hgv)
      · exact Or.inr (subC_before [false, false, false, true, true, true, true, false, true] gvC hgv)
      · exact Or.inr (subC_before [false, false, false, true, true, true, true, false, false, true] gvC hgv)
      · exact Or.inr (subC_before [false, false, false, true, true, true, true, false, false, false] gvC hgv)
      · exact Or.inr (subC_before [false, false, false, true, true, true, false, true, true] gvC hgv)
      · exact Or.inl (subC_before [false, false, false, true, false, true, true, true, true] gvC hgv)
      · exact Or.inl (subC_before [false, false, false, true, false, false, false, true, false, false] gvC hgv)
      · exact Or.inl (subC_before [false, false, false, false, true, false, true, true, true] gvC hgv)
      · exact Or.inl (subC_before [false, false, false, false, false, true, false, false, true] gvC hgv)
    · have e : j = 0 ∨ j = 1 ∨ j = 2 ∨ j = 3 ∨ j = 4 ∨ j = 5 ∨ j = 6 ∨ j = 8 ∨ j = 9 ∨ j = 10 := by omega
      rcases e with rfl | rfl | rfl | rfl | rfl | rfl | rfl | rfl | rfl | rfl
      · exact Or.inr (subC_before [false, false, false, true, true, false, true, false, false, false] gvC hgv)
      · exact Or.inr (subC_before [false, false, false, true, true, false, false, true, true] gvC hgv)
      · exact Or.inr (subC_before [false, false, false, true, true, false, false, true, false] gvC hgv)
      · exact Or.inr (subC_before [false, false, false, true, true, false, false, false, true] gvC hgv)
      · exact Or.inr (subC_before [false, false, false, true, true, false, false, false, false, true] gvC hgv)
      · exact Or.inr (subC_before [false, false, false, true, true, false, false, false, false, false] gvC hgv)
      · exact Or.inr (subC_before [false, false, false, true, false, true, true, true, true] gvC hgv)
      · exact Or.inl (subC_before [false, false, false, true, false, false, false, false, true] gvC hgv)
      · exact Or.inl (subC_before [false, false, false, false, true, false, true, true, false] gvC hgv)
      · exact Or.inl (subC_before [false, false, false, false, false, true, false, false, false, true] gvC hgv)
    · have e : j = 0 ∨ j = 1 ∨ j = 2 ∨ j = 3 ∨ j = 4 ∨ j = 5 ∨ j = 6 ∨ j = 7 ∨ j = 9 ∨ j = 10 := by omega
      rcases e with rfl | rfl | rfl | rfl | rfl | rfl | rfl | rfl | rfl | rfl
      · exact Or.inr (subC_before [false, false, false, true, false, false, true, true, false] gvC hgv)
      · exact Or.inr (subC_before [false, false, false, true, false, false, true, false, true] gvC hgv)
      · exact Or.inr (subC_before [false, false, false, true, false, false, true, false, false, true] gvC hgv)
      · exact Or.inr (subC_before [false, false, false, true, false, false, true, false, false, false] gvC hgv)
      · exact Or.inr (subC_before [false, false, false, true, false, false, false, true, true] gvC hgv)
      · exact Or.inr (subC_before [false, false, false, true, false, false, false, true, false, true] gvC hgv)
      · exact Or.inr (subC_before [false, false, false, true, false, false, false, true, false, false] gvC hgv)
      · exact Or.inr (subC_before [false, false, false, true, false, false, false, false, true] gvC hgv)
      · exact Or.inl (subC_before [false, false, false, false, true, false, true, false, true] gvC hgv)
      · exact Or.inl (subC_before [false, false, false, false, false, true, false, false, false, false] gvC hgv)
    · have e : j = 0 ∨ j = 1 ∨ j = 2 ∨ j = 3 ∨ j = 4 ∨ j = 5 ∨ j = 6 ∨ j = 7 ∨ j = 8 ∨ j = 10 := by omega
      rcases e with rfl | rfl | rfl | rfl | rfl | rfl | rfl | rfl | rfl | rfl
      · exact Or.inr (subC_before [false, false, false, false, true, true, true, false, false, false] gvC hgv)
      · exact Or.inr (subC_before [false, false, false, false, true, true, false, true, true] gvC hgv)
      · exact Or.inr (subC_before [false, false, false, false, true, true, false, true, false] gvC hgv)
      · exact Or.inr (subC_before [false, false, false, false, true, true, false, false, true] gvC hgv)
      · exact Or.inr (subC_before [false, false, false, false, true, true, false, false, false, true] gvC hgv)
      · exact Or.inr (subC_before [false, false, false, false, true, true, false, false, false, false] gvC hgv)
      · exact Or.inr (subC_before [false, false, false, false, true, false, true, true, true] gvC hgv)
      · exact Or.inr (subC_before [false, false, false, false, true, false, true, true, false] gvC hgv)
      · exact Or.inr (subC_before [false, false, false, false, true, false, true, false, true] gvC hgv)
      · exact Or.inl (subC_before [false, false, false, false, false, false, true, true, true] gvC hgv)
    · have e : j = 0 ∨ j = 1 ∨ j = 2 ∨ j = 3 ∨ j = 4 ∨ j = 5 ∨ j = 6 ∨ j = 7 ∨ j = 8 ∨ j = 9 := by omega
      rcases e with rfl | rfl | rfl | rfl | rfl | rfl | rfl | rfl | rfl | rfl
      · exact Or.inr (subC_before [false, false, false, false, false, true, true, true, false] gvC hgv)
      · exact Or.inr (subC_before [false, false, false, false, false, true, true, false, true] gvC hgv)
      · exact Or.inr (subC_before [false, false, false, false, false, true, true, false, false, true] gvC hgv)
      · exact Or.inr (subC_before [false, false, false, false, false, true, true, false, false, false] gvC hgv)
      · exact Or.inr (subC_before [false, false, false, false, false, true, false, true, true] gvC hgv)
      · exact Or.inr (subC_before [false, false, false, false, false, true, false, true, false] gvC hgv)
      · exact Or.inr (subC_before [false, false, false, false, false, true, false, false, true] gvC hgv)
      · exact Or.inr (subC_before [false, false, false, false, false, true, false, false, false, true] gvC hgv)
      · exact Or.inr (subC_before [false, false, false, false, false, true, false, false, false, false] gvC hgv)
      · exact Or.inr (subC_before [false, false, false, false, false, false, true, true, true] gvC hgv)
theorem sf_Z (hts : ∀ w ∈ lw_tbl, w.before #[Value.ref b] s = true) (hgv : gvC.before #[Value.ref b] s = true) (hA : ∀ a : Nat, a < s.heap.size → ¬ A a) : ∃ adK adV : Nat → Nat, ∀ (D : va_G) (c : ClassId × ClassId × ClassId × ClassId), zZ (D, c, adK, adV) A s s.heap := by
  obtain ⟨adK, adV, hS, hev⟩ := sf_str hgv hA
  refine ⟨adK, adV, fun D c => ⟨fun w hw => ?_, ?_, fun i q hi => ?_, hS, ?_, ?_, ?_⟩⟩
  · obtain ⟨a, i, x, h, e⟩ := NB_nest w hw
    subst e
    exact va_Nw.of rfl (hts _ (NB_sub _ hw))
  · exact List.forall_mem_cons.mpr ⟨sf_UNTOLD hts hgv hA, List.forall_mem_cons.mpr ⟨sf_PUT_LEAST hts hgv hA, List.forall_mem_cons.mpr ⟨sf_PUT_MOST hts hgv hA, List.forall_mem_cons.mpr ⟨sf_NUMBERS_OF hts hgv hA, List.forall_mem_cons.mpr ⟨sf_TIMES_MOST hts hgv hA, List.forall_mem_cons.mpr ⟨sf_FIRST_TOLD hts hgv hA, List.forall_mem_cons.mpr ⟨sf_LEAST hts hgv hA, List.forall_mem_cons.mpr ⟨sf_MOST hts hgv hA, List.forall_mem_cons.mpr ⟨sf_FIRST_CLAUSE hts hgv hA, List.forall_mem_cons.mpr ⟨sf_LAST_CLAUSE hts hgv hA, fun _ h => absurd h List.not_mem_nil⟩⟩⟩⟩⟩⟩⟩⟩⟩⟩
  · have h11 : i < 11 := by
      rcases Nat.lt_or_ge i 11 with h | h
      · exact h
      · rw [List.getElem?_eq_none (by exact h)] at hi; cases hi
    have e : i = 0 ∨ i = 1 ∨ i = 2 ∨ i = 3 ∨ i = 4 ∨ i = 5 ∨ i = 6 ∨ i = 7 ∨ i = 8 ∨ i = 9 ∨ i = 10 := by omega
    rcases e with rfl | rfl | rfl | rfl | rfl | rfl | rfl | rfl | rfl | rfl | rfl
    · cases hi; exact vk_R.of (hts _ (tb_m2 (List.mem_of_getElem? (i := 232) rfl))) (hev 0 (by decide))
    · cases hi; exact vk_R.of (hts _ (tb_m2 (List.mem_of_getElem? (i := 233) rfl))) (hev 1 (by decide))
    · cases hi; exact vk_R.of (hts _ (tb_m2 (List.mem_of_getElem? (i := 234) rfl))) (hev 2 (by decide))
    · cases hi; exact vk_R.of (hts _ (tb_m2 (List.mem_of_getElem? (i := 235) rfl))) (hev 3 (by decide))
    · cases hi; exact vk_R.of (hts _ (tb_m2 (List.mem_of_getElem? (i := 236) rfl))) (hev 4 (by decide))
    · cases hi; exact vk_R.of (hts _ (tb_m2 (List.mem_of_getElem? (i := 237) rfl))) (hev 5 (by decide))
    · cases hi; exact vk_R.of (hts _ (tb_m2 (List.mem_of_getElem? (i := 238) rfl))) (hev 6 (by decide))
    · cases hi; exact vk_R.of (hts _ (tb_m2 (List.mem_of_getElem? (i := 239) rfl))) (hev 7 (by decide))
    · cases hi; exact vk_R.of (hts _ (tb_m3 (List.mem_of_getElem? (i := 0) rfl))) (hev 8 (by decide))
    · cases hi; exact vk_R.of (hts _ (tb_m3 (List.mem_of_getElem? (i := 1) rfl))) (hev 9 (by decide))
    · cases hi; exact vk_R.of (hts _ (tb_m3 (List.mem_of_getElem? (i := 2) rfl))) (hev 10 (by decide))
  · exact va_Zof (hts _ (tb_m3 (List.mem_of_getElem? (i := 16) rfl))) (hts _ (tb_m1 (List.mem_of_getElem? (i := 13) rfl))) (va_eqt (subC_before [false, true, true, true, false, false, true, true, true] gvC hgv)) hA
  · exact va_Zqof (hts _ (tb_m3 (List.mem_of_getElem? (i := 32) rfl))) (hts _ (tb_m1 (List.mem_of_getElem? (i := 15) rfl))) (subC_before [false, true, true, true, false, false, true, true, false] gvC hgv) hA
  · exact va_AO.of (hts _ (tb_m2 (List.mem_of_getElem? (i := 58) rfl)))
theorem sf_arr {args : Array Value} {ty : FieldType} (h : (Cond.arrayClass ty).before args s = true) : ∃ cA : ClassId, ArrOfT s cA ty ∧ s.vm.findClass ("[" ++ ty.toString) = some cA := by
  obtain ⟨c, k, comp, h1, h2, h3⟩ := Cond.arrayClass_spec h
  exact ⟨c, fun N z => ⟨(fun k h => by cases h), k, h2, comp, h3⟩, h1⟩
theorem sf_ref {args : Array Value} {C : String} (h : (Cond.arrayOver (.object C)).before args s = true) : ∃ cA : ClassId, ArrOfT s cA (.object C) ∧ va_RA s cA (.object C) := by
  obtain ⟨comp, c, k, h1, -, h2, h3, h4⟩ := Cond.arrayOver_spec h
  exact ⟨c, fun N z => ⟨(fun k h => by cases h), k, h2, comp, h3⟩, k, comp, h2, h3, h1, h4⟩
theorem sf_K (hts : ∀ w ∈ lw_tbl, w.before #[Value.ref b] s = true) : ∃ (D : va_G) (c : ClassId × ClassId × ClassId × ClassId), ∀ adK adV : Nat → Nat, va_K D vwCl (zty (D, c, adK, adV)) s := by
  have hT : ∀ w ∈ TB, w.before #[Value.ref b] s = true := fun w hw => hts w (TB_sub w hw)
  obtain ⟨c0, i0, k0⟩ := u_known (C := RX0) (T := TX0) (N := 4) (n := 4) hT zin0 (hT _ q334)
  obtain ⟨c1, i1, k1⟩ := u_known (C := RX1) (T := TX1) (N := 4) (n := 4) hT zin1 (hT _ q202)
  obtain ⟨c2, i2, k2⟩ := u_known (C := RX2) (T := TX2) (N := 2) (n := 2) hT zin2 (hT _ q320)
  obtain ⟨c3, i3, k3⟩ := u_known (C := RX3) (T := TX3) (N := 4) (n := 4) hT zin3 (hT _ q123)
  obtain ⟨c4, i4, k4⟩ := u_known (C := RX4) (T := TX4) (N := 16) (n := 16) hT zin4 (hT _ q50)
  obtain ⟨c5, i5, k5⟩ := u_known (C := RX5) (T := TX5) (N := 8) (n := 8) hT zin5 (hT _ q44)
  obtain ⟨c6, i6, k6⟩ := u_known (C := RX6) (T := TX6) (N := 3) (n := 3) hT zin6 (hT _ q300)
  obtain ⟨c7, i7, k7⟩ := u_known (C := RX7) (T := TX7) (N := 18) (n := 18) hT zin7 (hT _ q196)
  obtain ⟨c8, i8, k8⟩ := u_known (C := RX8) (T := TX8) (N := 2) (n := 2) hT zin8 (hT _ q28)
  obtain ⟨c9, i9, k9⟩ := u_known (C := RX9) (T := TX9) (N := 2) (n := 2) hT zin9 (hT _ q144)
  obtain ⟨c10, i10, k10⟩ := u_known (C := RX10) (T := TX10) (N := 15) (n := 15) hT zin10 (hT _ q20)
  obtain ⟨c11, i11, k11⟩ := u_known (C := RX11) (T := TX11) (N := 34) (n := 34) hT zin11 (hT _ q1057)
  obtain ⟨a0, b0, d0⟩ := sf_arr (hT _ q42)
  obtain ⟨a1, b1, d1⟩ := sf_arr (hT _ q1174)
  obtain ⟨a2, b2, d2⟩ := sf_arr (hT _ q230)
  obtain ⟨a3, b3, d3⟩ := sf_ref (hts _ (tb_m2 (List.mem_of_getElem? (i := 58) rfl)))
  refine ⟨(fun k => if k = 0 then c0 else if k = 1 then c1 else if k = 2 then c2 else if k = 3 then c3 else if k = 4 then c4 else if k = 5 then c5 else if k = 6 then c6 else if k = 7 then c7 else if k = 8 then c8 else if k = 9 then c9 else if k = 10 then c10 else c11, fun k => if k = 0 then i0 else if k = 1 then i1 else if k = 2 then i2 else if k = 3 then i3 else if k = 4 then i4 else if k = 5 then i5 else if k = 6 then i6 else if k = 7 then i7 else if k = 8 then i8 else if k = 9 then i9 else if k = 10 then i10 else i11), (a0, a1, a2, a3), fun adK adV => ⟨fun k q hq => ?_, fun k q hq => ?_⟩⟩
  · match k, hq with
    | 0, hq => cases hq; exact k0
    | 1, hq => cases hq; exact k1
    | 2, hq => cases hq; exact k2
    | 3, hq => cases hq; exact k3
    | 4, hq => cases hq; exact k4
    | 5, hq => cases hq; exact k5
    | 6, hq => cases hq; exact k6
    | 7, hq => cases hq; exact k7
    | 8, hq => cases hq; exact k8
    | 9, hq => cases hq; exact k9
    | 10, hq => cases hq; exact k10
    | 11, hq => cases hq; exact k11
    | k + 12, hq => cases hq
  · match k, hq with
    | 0, hq => cases hq; exact ⟨b0, d0⟩
    | 1, hq => cases hq; exact ⟨b1, d1⟩
    | 2, hq => cases hq; exact ⟨b2, d2⟩
    | 3, hq => cases hq; exact ⟨b3, d3⟩
    | k + 4, hq => cases hq
end
