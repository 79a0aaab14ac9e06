/-! read: one clause, in the reference -/
def y_fR (c : Nat) (I I' : Nat → Nat → Int32) : Prop := ∀ q j, ¬ (q = 92 ∧ (j = 23 ∨ j = 24 ∨ j = 25)) → ¬ (q = 106 ∧ j = c) → ¬ (q = 107 ∧ 4 * c ≤ j ∧ j < 4 * c + 4) → I' q j = I q j
def y_P (n : Nat) (g : Nat → Nat) (c i : Nat) (I0 : Nat → Nat → Int32) (xs : Nat → Nat) (m : Nat) (s : Bool × Nat) (I : Nat → Nat → Int32) : Prop := y_tr n g I ∧ y_stat s I ∧ I 92 25 = nI c ∧ I 106 c = nI i ∧ (∀ j, j < m → I 107 (4 * c + j) = nI (xs j)) ∧ y_fR c I0 I
theorem y_P_s {n : Nat} {g : Nat → Nat} {c i : Nat} {I0 : Nat → Nat → Int32} {xs : Nat → Nat} {m w v : Nat} {s s' : Bool × Nat} {I : Nat → Nat → Int32} (hm : m < 4) (hr : y_stR n g w v s s') (hv : xs m = v) (hP : y_P n g c i I0 xs m s I) (d : Nat) (J : Nat → Nat → Int64) : ∃ I1, zC (d + 2) q_Mo_numberRead [.ref 92, .int (nI w)] (xz_SH, I, J) = some (some (.int (nI v)), (xz_SH, I1, J)) ∧ y_P n g c i I0 xs (m + 1) s' (xz_up I1 107 (4 * c + m) (nI v)) := by
  obtain ⟨h1, h2, h3, h4, h5, h6⟩ := hP
  obtain ⟨I1, k1, k2, k3⟩ := hr d I J h1 h2
  refine ⟨I1, k1, y_tr_w ?_ (fun k => ?_) h1, ⟨fun h => ?_, fun h => ?_⟩, ?_, ?_, fun j hj => ?_, fun q j e1 e2 e3 => ?_⟩
  · rw [y_up_n (by omega), k3 _ _ (by omega)]
  · rw [y_up_n (by omega), k3 _ _ (by omega)]
  · rw [y_up_n (by omega), y_up_n (by omega)]
    exact k2.1 h
  · rw [y_up_n (by omega)]
    exact k2.2 h
  · rw [y_up_n (by omega), k3 _ _ (by omega), h3]
  · rw [y_up_n (by omega), k3 _ _ (by omega), h4]
  · by_cases e : j = m
    · subst e
      rw [y_up_e ⟨rfl, rfl⟩, hv]
    · rw [y_up_n (by omega), k3 _ _ (by omega), h5 j (by omega)]
  · rw [y_up_n (by omega), k3 _ _ (by omega), h6 q j e1 e2 e3]
/-- what a read clause is -/
def y_QR (c i : Nat) (xs : Nat → Nat) (F : Bool × Nat) (I0 I : Nat → Nat → Int32) : Prop := y_stat F I ∧ (F.1 = true → I 92 25 = nI (c + 1) ∧ I 106 c = nI i ∧ ∀ j, j < y_K i → I 107 (4 * c + j) = nI (xs j)) ∧ y_fR c I0 I
theorem y_l77 {n : Nat} {g : Nat → Nat} {c i : Nat} (hn : n ≤ 100) {I0 : Nat → Nat → Int32} {xs : Nat → Nat} {F : Bool × Nat} (hF : F.2 ≤ n) {I : Nat → Nat → Int32} (hP : y_P n g c i I0 xs (y_K i) F I) (d : Nat) (J : Nat → Nat → Int64) : ∃ I1, zL d q_Mo_clauseRead 77 [(0, .ref 92)] (xz_SH, I, J) = some (none, (xz_SH, I1, J)) ∧ y_QR c i xs F I0 I1 := by
  obtain ⟨h1, h2, h3, h4, h5, h6⟩ := hP
  obtain ⟨b, f⟩ := F
  cases b with
  | true =>
    obtain ⟨h7, h8⟩ := h2.1 rfl
    refine ⟨xz_up I 92 25 (nI (c + 1)), b_Mo_clauseRead_l77 _ _ _ _ ?_, ⟨fun _ => ⟨?_, ?_⟩, fun h => (by cases h)⟩, fun _ => ⟨?_, ?_, fun j hj => ?_⟩, fun q j e1 e2 e3 => ?_⟩
    · simp (maxSteps := 1000000) (disch := omega) only [sh_is0, sh_gI0, sh_wI0, sh_wZ0, sh_gR0, sh_gR1, sh_gR2, sh_lI0, sh_lI1, sh_lI2, sh_sI0, sh_sI1, sh_sI2, sh_len0, sh_len1, sh_len2, sh_lZ0, sh_sZ0, sh_gJ0, sh_wJ0, sh_lR0, sh_lJ0, sh_sJ0, y_eo, y_eb, h8]
      rw [if_neg (by decide)]
      simp (maxSteps := 1000000) (disch := omega) only [sh_is0, sh_gI0, sh_wI0, sh_wZ0, sh_gR0, sh_gR1, sh_gR2, sh_lI0, sh_lI1, sh_lI2, sh_sI0, sh_sI1, sh_sI2, sh_len0, sh_len1, sh_len2, sh_lZ0, sh_sZ0, sh_gJ0, sh_wJ0, sh_lR0, sh_lJ0, sh_sJ0, y_eo, y_eb, h3, y_1]
      exact b_Mo_clauseRead_l87 _ _ _ rfl
    · exact (y_up_n (by omega)).trans h7
    · exact (y_up_n (by omega)).trans h8
    · exact y_up_e ⟨rfl, rfl⟩
    · rw [y_up_n (by omega), h4]
    · rw [y_up_n (by omega), h5 j hj]
    · rw [y_up_n (by omega), h6 q j e1 e2 e3]
  | false =>
    have h7 := h2.2 rfl
    have h8 : f ≤ n := hF
    refine ⟨I, b_Mo_clauseRead_l77 _ _ _ _ ?_, h2, fun h => (by cases h), h6⟩
    simp (maxSteps := 1000000) (disch := omega) only [sh_is0, sh_gI0, sh_wI0, sh_wZ0, sh_gR0, sh_gR1, sh_gR2, sh_lI0, sh_lI1, sh_lI2, sh_sI0, sh_sI1, sh_sI2, sh_len0, sh_len1, sh_len2, sh_lZ0, sh_sZ0, sh_gJ0, sh_wJ0, sh_lR0, sh_lJ0, sh_sJ0, y_eo, y_eb, h7]
    rw [if_pos (by rw [y_leI, nI_toInt (by omega)]; simp only [y_lit]; omega)]
    exact b_Mo_clauseRead_l87 _ _ _ rfl
theorem y_rcl0 {n : Nat} {g : Nat → Nat} (hn : n ≤ 100) {c : Nat} (hc : c < 12) {xs : Nat → Nat} {q v0 : Nat} {s0 s1 : Bool × Nat} (hs : s0 = (true, q)) (r0 : y_stR n g 1 v0 s0 s1) (x0 : xs 0 = v0) (hF : s1.2 ≤ n) {I : Nat → Nat → Int32} (ht : y_tr n g I) (hf : I 92 24 = -1) (h25 : I 92 25 = nI c) (d : Nat) (J : Nat → Nat → Int64) (hw : zC (d + 6) q_Mo_wordRead [.ref 92] (xz_SH, I, J) = some (some (.int (nI 0)), (xz_SH, xz_up I 92 23 (nI q), J))) : ∃ I1, zC (d + 7) q_Mo_clauseRead [.ref 92] (xz_SH, I, J) = some (none, (xz_SH, I1, J)) ∧ y_QR c 0 xs s1 I I1 := by
  have P0 : y_P n g c 0 I xs 0 s0 (xz_up (xz_up I 92 23 (nI q)) 106 c (nI 0)) := by
    rw [hs]
    refine ⟨y_tr_w ?_ (fun k => ?_) ht, ⟨fun _ => ⟨?_, ?_⟩, fun h => (by cases h)⟩, ?_, y_up_e ⟨rfl, rfl⟩, fun j hj => by omega, fun q j e1 e2 e3 => ?_⟩ <;> simp (disch := omega) only [y_up_n, y_up_e, hf, h25]
  obtain ⟨I1, k1, P1⟩ := y_P_s (by omega) r0 x0 P0 (d + 4) J
  obtain ⟨I9, k9, Q⟩ := y_l77 hn hF P1 (d + 6) J
  refine ⟨I9, b_Mo_clauseRead _ _ _ _ ?_, Q⟩
  have e11 : (nI 0 = (1 : Int32)) = False := eq_false (by decide)
  have e12 : (nI 0 = (2 : Int32)) = False := eq_false (by decide)
  have e14 : (nI 0 = (4 : Int32)) = False := eq_false (by decide)
  have j1 : zC (d + 6) q_Mo_numberRead [.ref 92, .int (1 : Int32)] _ = _ := k1
  have c25 : ∀ k, k < 4 → xz_in (nI (4 * c + k)) 48 = true ∧ (nI (4 * c + k)).toNatClampNeg = 4 * c + k := fun k hk => ⟨y_in (by omega) (by decide), nI_clamp (by omega)⟩
  have c24 : xz_in (nI (4 * c)) 48 = true ∧ (nI (4 * c)).toNatClampNeg = 4 * c := ⟨y_in (by omega) (by decide), nI_clamp (by omega)⟩
  rw [show xz_is (xz_SH, I, J) 92 8 = true from rfl, y_eb, hw, y_eI]
  simp only [e11, e12, e14, if_true, if_false]
  simp (maxSteps := 1000000) (disch := omega) only [sh_is0, sh_gI0, sh_wI0, sh_wZ0, sh_gR0, sh_gR1, sh_gR2, sh_lI0, sh_lI1, sh_lI2, sh_sI0, sh_sI1, sh_sI2, sh_len0, sh_len1, sh_len2, sh_lZ0, sh_sZ0, sh_gJ0, sh_wJ0, sh_lR0, sh_lJ0, sh_sJ0, y_eo, y_eb, y_up_n, hf]
  rw [if_pos (by decide)]
  simp (maxSteps := 1000000) (disch := omega) only [sh_is0, sh_gI0, sh_wI0, sh_wZ0, sh_gR0, sh_gR1, sh_gR2, sh_lI0, sh_lI1, sh_lI2, sh_sI0, sh_sI1, sh_sI2, sh_len0, sh_len1, sh_len2, sh_lZ0, sh_sZ0, sh_gJ0, sh_wJ0, sh_lR0, sh_lJ0, sh_sJ0, y_eo, y_eb, h25, y_up_n, y_in (show c < 12 by omega) (by decide), nI_clamp (show c < 2 ^ 31 by omega), cond_true, y_4, j1, y_eI, c24.1, c24.2]
  refine b_Mo_clauseRead_l64 _ _ _ _ _ _ ?_
  simp only [e11, if_true, if_false]
  exact k9
theorem y_rcl1 {n : Nat} {g : Nat → Nat} (hn : n ≤ 100) {c : Nat} (hc : c < 12) {xs : Nat → Nat} {q v0 v1 v2 v3 : Nat} {s0 s1 s2 s3 s4 : Bool × Nat} (hs : s0 = (true, q)) (r0 : y_stR n g 2 v0 s0 s1) (x0 : xs 0 = v0) (r1 : y_stR n g 1 v1 s1 s2) (x1 : xs 1 = v1) (r2 : y_stR n g 1 v2 s2 s3) (x2 : xs 2 = v2) (r3 : y_stR n g 3 v3 s3 s4) (x3 : xs 3 = v3) (hF : s4.2 ≤ n) {I : Nat → Nat → Int32} (ht : y_tr n g I) (hf : I 92 24 = -1) (h25 : I 92 25 = nI c) (d : Nat) (J : Nat → Nat → Int64) (hw : zC (d + 6) q_Mo_wordRead [.ref 92] (xz_SH, I, J) = some (some (.int (nI 1)), (xz_SH, xz_up I 92 23 (nI q), J))) : ∃ I1, zC (d + 7) q_Mo_clauseRead [.ref 92] (xz_SH, I, J) = some (none, (xz_SH, I1, J)) ∧ y_QR c 1 xs s4 I I1 := by
  have P0 : y_P n g c 1 I xs 0 s0 (xz_up (xz_up I 92 23 (nI q)) 106 c (nI 1)) := by
    rw [hs]
    refine ⟨y_tr_w ?_ (fun k => ?_) ht, ⟨fun _ => ⟨?_, ?_⟩, fun h => (by cases h)⟩, ?_, y_up_e ⟨rfl, rfl⟩, fun j hj => by omega, fun q j e1 e2 e3 => ?_⟩ <;> simp (disch := omega) only [y_up_n, y_up_e, hf, h25]
  obtain ⟨I1, k1, P1⟩ := y_P_s (by omega) r0 x0 P0 (d + 4) J
  obtain ⟨I2, k2, P2⟩ := y_P_s (by omega) r1 x1 P1 (d + 4) J
  obtain ⟨I3, k3, P3⟩ := y_P_s (by omega) r2 x2 P2 (d + 4) J
  obtain ⟨I4, k4, P4⟩ := y_P_s (by omega) r3 x3 P3 (d + 4) J
  obtain ⟨I9, k9, Q⟩ := y_l77 hn hF P4 (d + 6) J
  refine ⟨I9, b_Mo_clauseRead _ _ _ _ ?_, Q⟩
  have e11 : (nI 1 = (1 : Int32)) = True := eq_true (by decide)
  have e12 : (nI 1 = (2 : Int32)) = False := eq_false (by decide)
  have e14 : (nI 1 = (4 : Int32)) = False := eq_false (by decide)
  have j1 : zC (d + 6) q_Mo_numberRead [.ref 92, .int (2 : Int32)] _ = _ := k1
  have c25 : ∀ k, k < 4 → xz_in (nI (4 * c + k)) 48 = true ∧ (nI (4 * c + k)).toNatClampNeg = 4 * c + k := fun k hk => ⟨y_in (by omega) (by decide), nI_clamp (by omega)⟩
  have c24 : xz_in (nI (4 * c)) 48 = true ∧ (nI (4 * c)).toNatClampNeg = 4 * c := ⟨y_in (by omega) (by decide), nI_clamp (by omega)⟩
  rw [show xz_is (xz_SH, I, J) 92 8 = true from rfl, y_eb, hw, y_eI]
  simp only [e11, e12, e14, if_true, if_false]
  simp (maxSteps := 1000000) (disch := omega) only [sh_is0, sh_gI0, sh_wI0, sh_wZ0, sh_gR0, sh_gR1, sh_gR2, sh_lI0, sh_lI1, sh_lI2, sh_sI0, sh_sI1, sh_sI2, sh_len0, sh_len1, sh_len2, sh_lZ0, sh_sZ0, sh_gJ0, sh_wJ0, sh_lR0, sh_lJ0, sh_sJ0, y_eo, y_eb, y_up_n, hf]
  rw [if_pos (by decide)]
  simp (maxSteps := 1000000) (disch := omega) only [sh_is0, sh_gI0, sh_wI0, sh_wZ0, sh_gR0, sh_gR1, sh_gR2, sh_lI0, sh_lI1, sh_lI2, sh_sI0, sh_sI1, sh_sI2, sh_len0, sh_len1, sh_len2, sh_lZ0, sh_sZ0, sh_gJ0, sh_wJ0, sh_lR0, sh_lJ0, sh_sJ0, y_eo, y_eb, h25, y_up_n, y_in (show c < 12 by omega) (by decide), nI_clamp (show c < 2 ^ 31 by omega), cond_true, y_4, j1, y_eI, c24.1, c24.2]
  refine b_Mo_clauseRead_l40 _ _ _ _ _ _ ?_
  have j2 : zC (d + 6) q_Mo_numberRead [.ref 92, .int (1 : Int32)] _ = _ := k2
  have j3 : zC (d + 6) q_Mo_numberRead [.ref 92, .int (1 : Int32)] _ = _ := k3
  rw [Nat.add_zero (4 * c)] at j2
  simp only [e11, e14, if_true, if_false]
  simp (maxSteps := 1000000) (disch := omega) only [sh_is0, sh_gI0, sh_wI0, sh_wZ0, sh_gR0, sh_gR1, sh_gR2, sh_lI0, sh_lI1, sh_lI2, sh_sI0, sh_sI1, sh_sI2, sh_len0, sh_len1, sh_len2, sh_lZ0, sh_sZ0, sh_gJ0, sh_wJ0, sh_lR0, sh_lJ0, sh_sJ0, y_eo, y_eb, j2, y_eI, y_1, (c25 1 (by omega)).1, (c25 1 (by omega)).2, cond_true, j3, y_2', (c25 2 (by omega)).1, (c25 2 (by omega)).2]
  refine b_Mo_clauseRead_l64 _ _ _ _ _ _ ?_
  simp only [e11, if_true, if_false]
  have j4 : zC (d + 6) q_Mo_numberRead [.ref 92, .int (3 : Int32)] _ = _ := k4
  simp (maxSteps := 1000000) (disch := omega) only [sh_is0, sh_gI0, sh_wI0, sh_wZ0, sh_gR0, sh_gR1, sh_gR2, sh_lI0, sh_lI1, sh_lI2, sh_sI0, sh_sI1, sh_sI2, sh_len0, sh_len1, sh_len2, sh_lZ0, sh_sZ0, sh_gJ0, sh_wJ0, sh_lR0, sh_lJ0, sh_sJ0, y_eo, y_eb, j4, y_eI, y_3', (c25 3 (by omega)).1, (c25 3 (by omega)).2, cond_true]
  exact k9
theorem y_rcl2 {n : Nat} {g : Nat → Nat} (hn : n ≤ 100) {c : Nat} (hc : c < 12) {xs : Nat → Nat} {q v0 : Nat} {s0 s1 : Bool × Nat} (hs : s0 = (true, q)) (r0 : y_stR n g 2 v0 s0 s1) (x0 : xs 0 = v0) (hF : s1.2 ≤ n) {I : Nat → Nat → Int32} (ht : y_tr n g I) (hf : I 92 24 = -1) (h25 : I 92 25 = nI c) (d : Nat) (J : Nat → Nat → Int64) (hw : zC (d + 6) q_Mo_wordRead [.ref 92] (xz_SH, I, J) = some (some (.int (nI 2)), (xz_SH, xz_up I 92 23 (nI q), J))) : ∃ I1, zC (d + 7) q_Mo_clauseRead [.ref 92] (xz_SH, I, J) = some (none, (xz_SH, I1, J)) ∧ y_QR c 2 xs s1 I I1 := by
  have P0 : y_P n g c 2 I xs 0 s0 (xz_up (xz_up I 92 23 (nI q)) 106 c (nI 2)) := by
    rw [hs]
    refine ⟨y_tr_w ?_ (fun k => ?_) ht, ⟨fun _ => ⟨?_, ?_⟩, fun h => (by cases h)⟩, ?_, y_up_e ⟨rfl, rfl⟩, fun j hj => by omega, fun q j e1 e2 e3 => ?_⟩ <;> simp (disch := omega) only [y_up_n, y_up_e, hf, h25]
  obtain ⟨I1, k1, P1⟩ := y_P_s (by omega) r0 x0 P0 (d + 4) J
  obtain ⟨I9, k9, Q⟩ := y_l77 hn hF P1 (d + 6) J
  refine ⟨I9, b_Mo_clauseRead _ _ _ _ ?_, Q⟩
  have e11 : (nI 2 = (1 : Int32)) = False := eq_false (by decide)
  have e12 : (nI 2 = (2 : Int32)) = True := eq_true (by decide)
  have e14 : (nI 2 = (4 : Int32)) = False := eq_false (by decide)
  have j1 : zC (d + 6) q_Mo_numberRead [.ref 92, .int (2 : Int32)] _ = _ := k1
  have c25 : ∀ k, k < 4 → xz_in (nI (4 * c + k)) 48 = true ∧ (nI (4 * c + k)).toNatClampNeg = 4 * c + k := fun k hk => ⟨y_in (by omega) (by decide), nI_clamp (by omega)⟩
  have c24 : xz_in (nI (4 * c)) 48 = true ∧ (nI (4 * c)).toNatClampNeg = 4 * c := ⟨y_in (by omega) (by decide), nI_clamp (by omega)⟩
  rw [show xz_is (xz_SH, I, J) 92 8 = true from rfl, y_eb, hw, y_eI]
  simp only [e11, e12, e14, if_true, if_false]
  simp (maxSteps := 1000000) (disch := omega) only [sh_is0, sh_gI0, sh_wI0, sh_wZ0, sh_gR0, sh_gR1, sh_gR2, sh_lI0, sh_lI1, sh_lI2, sh_sI0, sh_sI1, sh_sI2, sh_len0, sh_len1, sh_len2, sh_lZ0, sh_sZ0, sh_gJ0, sh_wJ0, sh_lR0, sh_lJ0, sh_sJ0, y_eo, y_eb, y_up_n, hf]
  rw [if_pos (by decide)]
  simp (maxSteps := 1000000) (disch := omega) only [sh_is0, sh_gI0, sh_wI0, sh_wZ0, sh_gR0, sh_gR1, sh_gR2, sh_lI0, sh_lI1, sh_lI2, sh_sI0, sh_sI1, sh_sI2, sh_len0, sh_len1, sh_len2, sh_lZ0, sh_sZ0, sh_gJ0, sh_wJ0, sh_lR0, sh_lJ0, sh_sJ0, y_eo, y_eb, h25, y_up_n, y_in (show c < 12 by omega) (by decide), nI_clamp (show c < 2 ^ 31 by omega), cond_true, y_4, j1, y_eI, c24.1, c24.2]
  refine b_Mo_clauseRead_l64 _ _ _ _ _ _ ?_
  simp only [e11, if_true, if_false]
  exact k9
theorem y_rcl3 {n : Nat} {g : Nat → Nat} (hn : n ≤ 100) {c : Nat} (hc : c < 12) {xs : Nat → Nat} {q v0 : Nat} {s0 s1 : Bool × Nat} (hs : s0 = (true, q)) (r0 : y_stR n g 1 v0 s0 s1) (x0 : xs 0 = v0) (hF : s1.2 ≤ n) {I : Nat → Nat → Int32} (ht : y_tr n g I) (hf : I 92 24 = -1) (h25 : I 92 25 = nI c) (d : Nat) (J : Nat → Nat → Int64) (hw : zC (d + 6) q_Mo_wordRead [.ref 92] (xz_SH, I, J) = some (some (.int (nI 3)), (xz_SH, xz_up I 92 23 (nI q), J))) : ∃ I1, zC (d + 7) q_Mo_clauseRead [.ref 92] (xz_SH, I, J) = some (none, (xz_SH, I1, J)) ∧ y_QR c 3 xs s1 I I1 := by
  have P0 : y_P n g c 3 I xs 0 s0 (xz_up (xz_up I 92 23 (nI q)) 106 c (nI 3)) := by
    rw [hs]
    refine ⟨y_tr_w ?_ (fun k => ?_) ht, ⟨fun _ => ⟨?_, ?_⟩, fun h => (by cases h)⟩, ?_, y_up_e ⟨rfl, rfl⟩, fun j hj => by omega, fun q j e1 e2 e3 => ?_⟩ <;> simp (disch := omega) only [y_up_n, y_up_e, hf, h25]
  obtain ⟨I1, k1, P1⟩ := y_P_s (by omega) r0 x0 P0 (d + 4) J
  obtain ⟨I9, k9, Q⟩ := y_l77 hn hF P1 (d + 6) J
  refine ⟨I9, b_Mo_clauseRead _ _ _ _ ?_, Q⟩
  have e11 : (nI 3 = (1 : Int32)) = False := eq_false (by decide)
  have e12 : (nI 3 = (2 : Int32)) = False := eq_false (by decide)
  have e14 : (nI 3 = (4 : Int32)) = False := eq_false (by decide)
  have j1 : zC (d + 6) q_Mo_numberRead [.ref 92, .int (1 : Int32)] _ = _ := k1
  have c25 : ∀ k, k < 4 → xz_in (nI (4 * c + k)) 48 = true ∧ (nI (4 * c + k)).toNatClampNeg = 4 * c + k := fun k hk => ⟨y_in (by omega) (by decide), nI_clamp (by omega)⟩
  have c24 : xz_in (nI (4 * c)) 48 = true ∧ (nI (4 * c)).toNatClampNeg = 4 * c := ⟨y_in (by omega) (by decide), nI_clamp (by omega)⟩
  rw [show xz_is (xz_SH, I, J) 92 8 = true from rfl, y_eb, hw, y_eI]
  simp only [e11, e12, e14, if_true, if_false]
  simp (maxSteps := 1000000) (disch := omega) only [sh_is0, sh_gI0, sh_wI0, sh_wZ0, sh_gR0, sh_gR1, sh_gR2, sh_lI0, sh_lI1, sh_lI2, sh_sI0, sh_sI1, sh_sI2, sh_len0, sh_len1, sh_len2, sh_lZ0, sh_sZ0, sh_gJ0, sh_wJ0, sh_lR0, sh_lJ0, sh_sJ0, y_eo, y_eb, y_up_n, hf]
  rw [if_pos (by decide)]
  simp (maxSteps := 1000000) (disch := omega) only [sh_is0, sh_gI0, sh_wI0, sh_wZ0, sh_gR0, sh_gR1, sh_gR2, sh_lI0, sh_lI1, sh_lI2, sh_sI0, sh_sI1, sh_sI2, sh_len0, sh_len1, sh_len2, sh_lZ0, sh_sZ0, sh_gJ0, sh_wJ0, sh_lR0, sh_lJ0, sh_sJ0, y_eo, y_eb, h25, y_up_n, y_in (show c < 12 by omega) (by decide), nI_clamp (show c < 2 ^ 31 by omega), cond_true, y_4, j1, y_eI, c24.1, c24.2]
  refine b_Mo_clauseRead_l64 _ _ _ _ _ _ ?_
  simp only [e11, if_true, if_false]
  exact k9
theorem y_rcl4 {n : Nat} {g : Nat → Nat} (hn : n ≤ 100) {c : Nat} (hc : c < 12) {xs : Nat → Nat} {q v0 v1 v2 : Nat} {s0 s1 s2 s3 : Bool × Nat} (hs : s0 = (true, q)) (r0 : y_stR n g 1 v0 s0 s1) (x0 : xs 0 = v0) (r1 : y_stR n g 1 v1 s1 s2) (x1 : xs 1 = v1) (r2 : y_stR n g 2 v2 s2 s3) (x2 : xs 2 = v2) (hF : s3.2 ≤ n) {I : Nat → Nat → Int32} (ht : y_tr n g I) (hf : I 92 24 = -1) (h25 : I 92 25 = nI c) (d : Nat) (J : Nat → Nat → Int64) (hw : zC (d + 6) q_Mo_wordRead [.ref 92] (xz_SH, I, J) = some (some (.int (nI 4)), (xz_SH, xz_up I 92 23 (nI q), J))) : ∃ I1, zC (d + 7) q_Mo_clauseRead [.ref 92] (xz_SH, I, J) = some (none, (xz_SH, I1, J)) ∧ y_QR c 4 xs s3 I I1 := by
  have P0 : y_P n g c 4 I xs 0 s0 (xz_up (xz_up I 92 23 (nI q)) 106 c (nI 4)) := by
    rw [hs]
    refine ⟨y_tr_w ?_ (fun k => ?_) ht, ⟨fun _ => ⟨?_, ?_⟩, fun h => (by cases h)⟩, ?_, y_up_e ⟨rfl, rfl⟩, fun j hj => by omega, fun q j e1 e2 e3 => ?_⟩ <;> simp (disch := omega) only [y_up_n, y_up_e, hf, h25]
  obtain ⟨I1, k1, P1⟩ := y_P_s (by omega) r0 x0 P0 (d + 4) J
  obtain ⟨I2, k2, P2⟩ := y_P_s (by omega) r1 x1 P1 (d + 4) J
  obtain ⟨I3, k3, P3⟩ := y_P_s (by omega) r2 x2 P2 (d + 4) J
  obtain ⟨I9, k9, Q⟩ := y_l77 hn hF P3 (d + 6) J
  refine ⟨I9, b_Mo_clauseRead _ _ _ _ ?_, Q⟩
  have e11 : (nI 4 = (1 : Int32)) = False := eq_false (by decide)
  have e12 : (nI 4 = (2 : Int32)) = False := eq_false (by decide)
  have e14 : (nI 4 = (4 : Int32)) = True := eq_true (by decide)
  have j1 : zC (d + 6) q_Mo_numberRead [.ref 92, .int (1 : Int32)] _ = _ := k1
  have c25 : ∀ k, k < 4 → xz_in (nI (4 * c + k)) 48 = true ∧ (nI (4 * c + k)).toNatClampNeg = 4 * c + k := fun k hk => ⟨y_in (by omega) (by decide), nI_clamp (by omega)⟩
  have c24 : xz_in (nI (4 * c)) 48 = true ∧ (nI (4 * c)).toNatClampNeg = 4 * c := ⟨y_in (by omega) (by decide), nI_clamp (by omega)⟩
  rw [show xz_is (xz_SH, I, J) 92 8 = true from rfl, y_eb, hw, y_eI]
  simp only [e11, e12, e14, if_true, if_false]
  simp (maxSteps := 1000000) (disch := omega) only [sh_is0, sh_gI0, sh_wI0, sh_wZ0, sh_gR0, sh_gR1, sh_gR2, sh_lI0, sh_lI1, sh_lI2, sh_sI0, sh_sI1, sh_sI2, sh_len0, sh_len1, sh_len2, sh_lZ0, sh_sZ0, sh_gJ0, sh_wJ0, sh_lR0, sh_lJ0, sh_sJ0, y_eo, y_eb, y_up_n, hf]
  rw [if_pos (by decide)]
  simp (maxSteps := 1000000) (disch := omega) only [sh_is0, sh_gI0, sh_wI0, sh_wZ0, sh_gR0, sh_gR1, sh_gR2, sh_lI0, sh_lI1, sh_lI2, sh_sI0, sh_sI1, sh_sI2, sh_len0, sh_len1, sh_len2, sh_lZ0, sh_sZ0, sh_gJ0, sh_wJ0, sh_lR0, sh_lJ0, sh_sJ0, y_eo, y_eb, h25, y_up_n, y_in (show c < 12 by omega) (by decide), nI_clamp (show c < 2 ^ 31 by omega), cond_true, y_4, j1, y_eI, c24.1, c24.2]
  refine b_Mo_clauseRead_l40 _ _ _ _ _ _ ?_
  have j2 : zC (d + 6) q_Mo_numberRead [.ref 92, .int (1 : Int32)] _ = _ := k2
  have j3 : zC (d + 6) q_Mo_numberRead [.ref 92, .int (2 : Int32)] _ = _ := k3
  rw [Nat.add_zero (4 * c)] at j2
  simp only [e11, e14, if_true, if_false]
  simp (maxSteps := 1000000) (disch := omega) only [sh_is0, sh_gI0, sh_wI0, sh_wZ0, sh_gR0, sh_gR1, sh_gR2, sh_lI0, sh_lI1, sh_lI2, sh_sI0, sh_sI1, sh_sI2, sh_len0, sh_len1, sh_len2, sh_lZ0, sh_sZ0, sh_gJ0, sh_wJ0, sh_lR0, sh_lJ0, sh_sJ0, y_eo, y_eb, j2, y_eI, y_1, (c25 1 (by omega)).1, (c25 1 (by omega)).2, cond_true, j3, y_2', (c25 2 (by omega)).1, (c25 2 (by omega)).2]
  refine b_Mo_clauseRead_l64 _ _ _ _ _ _ ?_
  simp only [e11, if_true, if_false]
  exact k9
