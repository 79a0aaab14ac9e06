/-! THE LAW'S START: behind the two constructors the heap is xz_e2 -/
theorem xz_r1_some : ∃ M1, xz_r1 = some (none, M1) ∧ M1.1.length = 92 ∧ xz_e1 = xz_new M1 (13, 51, List.replicate 51 none) := by
  have h := xz_r1_ok
  cases hr : xz_r1 with
  | none => rw [hr] at h; cases h
  | some r =>
    rw [hr] at h
    simp only [Bool.and_eq_true, beq_iff_eq] at h
    obtain ⟨ov, M1⟩ := r
    obtain ⟨h1, h2⟩ := h
    refine ⟨M1, by rw [show ov = none from h1], h2, ?_⟩
    unfold xz_e1
    rw [hr]
theorem xz_r2_some : xz_r2 = some (none, xz_e2) := by
  have h := xz_r2_ok
  cases hr : xz_r2 with
  | none => rw [hr] at h; cases h
  | some r =>
    rw [hr] at h
    simp only [beq_iff_eq] at h
    obtain ⟨ov, M1⟩ := r
    unfold xz_e2
    rw [hr]
    rw [show ov = none from h]
theorem xz_law_start (L : Nat) (xs : Nat → Int32) (r : Option Value × xz_M) (h : zX 60 L xs 11 [(0, .ref 1000), (1, .ref 0), (2, .ref 92), (3, .int 0)] xz_e2 = some r) : zX 60 L xs 0 [(0, .ref 1000)] ([], fun _ _ => 0, fun _ _ => 0) = some r := by
  obtain ⟨M1, h1, h2, h3⟩ := xz_r1_some
  refine b_La_start _ _ _ _ _ ?_
  have c1 : zC 60 q_HR_init [.ref 0] xz_e0 = some (none, M1) := xz_Run_comp (n := 20) h1
  have c2 : zC 60 q_Mo_init [.ref 92] xz_e1 = some (none, xz_e2) := xz_Run_comp (n := 20) xz_r2_some
  show xz_b (xz_is xz_e0 0 7) (xz_bV (zC 60 q_HR_init [.ref 0] xz_e0) fun M1 => xz_b (xz_is (xz_new M1 (13, 51, List.replicate 51 none)) M1.1.length 8) (xz_bV (zC 60 q_Mo_init [.ref M1.1.length] (xz_new M1 (13, 51, List.replicate 51 none))) fun M2 => zX 60 L xs 11 [(0, .ref 1000), (1, .ref 0), (2, .ref M1.1.length), (3, .int (0 : Int32))] M2)) = some r
  rw [c1]
  show xz_b (xz_is (xz_new M1 (13, 51, List.replicate 51 none)) M1.1.length 8) (xz_bV (zC 60 q_Mo_init [.ref M1.1.length] (xz_new M1 (13, 51, List.replicate 51 none))) fun M2 => zX 60 L xs 11 [(0, .ref 1000), (1, .ref 0), (2, .ref M1.1.length), (3, .int (0 : Int32))] M2) = some r
  have e1 : xz_is (xz_new M1 (13, 51, List.replicate 51 none)) M1.1.length 8 = true := by
    unfold xz_is
    rw [xz_new_get_eq]
    rfl
  rw [e1, h2, ← h3, c2]
  exact h
