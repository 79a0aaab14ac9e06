/-! the start is in the relation -/
theorem y_e2g (P : List (Nat × Nat)) (f i0 : Nat → Nat → Int32) (h0 : (P.all fun q => (List.range q.2).all fun j => f q.1 j == i0 q.1 j) = true) {q j m : Nat} (h : (q, m) ∈ P) (hj : j < m) : f q j = i0 q j := by
  have h1 := List.all_eq_true.mp (List.all_eq_true.mp h0 _ h) j (List.mem_range.mpr hj)
  exact beq_iff_eq.mp h1
theorem y_e2h (P : List Nat) (f : Nat → Nat → Int64) (h0 : (P.all fun k => (List.range 60).all fun j => f k j == 0) = true) {q j : Nat} (h : q ∈ P) (hj : j < 60) : f q j = 0 := by
  have h1 := List.all_eq_true.mp (List.all_eq_true.mp h0 _ h) j (List.mem_range.mpr hj)
  exact beq_iff_eq.mp h1
theorem y_e2I {q j m : Nat} (h : (q, m) ∈ xz_pts) (hj : j < m) : xz_e2.2.1 q j = xz_i0 q j := y_e2g _ _ _ xz_e2_I h hj
theorem y_e2J {q j : Nat} (h : q ∈ ([86, 87, 88, 89, 90, 91] : List Nat)) (hj : j < 60) : xz_e2.2.2 q j = 0 := y_e2h _ _ xz_e2_J h hj
theorem y_e2J' {q j : Nat} (h : q ∈ ([129, 130, 131, 132, 133, 134] : List Nat)) (hj : j < 60) : xz_e2.2.2 q j = 0 := y_e2h _ _ xz_e2_J2 h hj
