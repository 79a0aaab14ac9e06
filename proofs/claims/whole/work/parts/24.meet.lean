/-! MEETINGS, class and reference -/
def y_ct (P : Nat → Bool) : Nat → Nat → Nat
  | 0, _ => 0
  | j + 1, m => (if P m = true then 1 else 0) + y_ct P j (m + 1)
theorem y_ct_le (P : Nat → Bool) : ∀ j m, y_ct P j m ≤ j
  | 0, _ => Nat.le_refl _
  | j + 1, m => by
    have := y_ct_le P j (m + 1)
    unfold y_ct
    split <;> omega
theorem y_ct_congr {P Q : Nat → Bool} : ∀ {j m : Nat}, (∀ i, m ≤ i → i < m + j → P i = Q i) → y_ct P j m = y_ct Q j m
  | 0, _, _ => rfl
  | j + 1, m, h => by
    unfold y_ct
    rw [h m (Nat.le_refl _) (by omega), y_ct_congr (j := j) (m := m + 1) fun i h1 h2 => h i (by omega) (by omega)]
theorem y_ot_lt {S : y_S} (hok : y_okM S) {m h x : Nat} (hm : m < S 1 0) (e : y_ot S m h = some x) : x < S 0 0 ∧ x < 6 := by
  obtain ⟨k1, k2, k3, k4, k5, k6, k7, k8⟩ := hok
  obtain ⟨_, g3, g4, _⟩ := k8 m hm
  unfold y_ot at e
  split at e
  · cases e; omega
  · split at e
    · cases e; omega
    · cases e
theorem y_okM_six {S : y_S} (hok : y_okM S) : y_six S := by
  obtain ⟨k1, k2, k3, k4, k5, k6, k7, k8⟩ := hok
  intro m hm
  obtain ⟨_, g3, g4, _⟩ := k8 m hm
  omega
theorem y_Me_other (d : Nat) {b : Nat} (hb : y_b3 b) {S : y_S} {I : Nat → Nat → Int32} (J : Nat → Nat → Int64) (hS : y_vM b S I) (hok : y_okM S) {m h : Nat} (hm : m < S 1 0) (hh : h < 2 ^ 31) : zC (d + 1) q_Me_other [.ref (b + 1), .int (nI m), .int (nI h)] (xz_SH, I, J) = some (some (.int (y_o1 (y_ot S m h))), (xz_SH, I, J)) := by
  obtain ⟨h0, h1, h2⟩ := hS
  obtain ⟨k1, k2, k3, k4, k5, k6, k7, k8⟩ := hok
  obtain ⟨h3, h4, h5, h6, h7⟩ := h2 m hm
  obtain ⟨_, g3, g4, _⟩ := k8 m hm
  refine b_Me_other _ _ _ _ _ _ ?_
  unfold y_ot
  by_cases e1 : S 3 m = h
  · rw [if_pos e1]
    simp (disch := omega) only [sh_is0, sh_gI0, sh_wI0, sh_wZ0, sh_gR0, sh_gR1, sh_gR2, sh_lI0, sh_lI1, sh_lI2, sh_sI0, sh_sI1, sh_sI2, sh_len0, sh_len1, sh_len2, sh_lZ0, sh_sZ0, sh_gJ0, sh_wJ0, sh_lR0, sh_lJ0, sh_sJ0, y_shb hb, y_eo, y_eb, y_eI, y_eJ, y_eR, y_eV, y_in, nI_clamp, cond_true, y_eqI, y_ltI, y_leI, y_lit, nI_toInt, if_true, if_false, if_pos, if_neg, y_bIt, y_bIf, y_band, h4, h5, y_o1]
  · rw [if_neg e1]
    by_cases e2 : S 4 m = h
    · rw [if_pos e2]
      simp (disch := omega) only [sh_is0, sh_gI0, sh_wI0, sh_wZ0, sh_gR0, sh_gR1, sh_gR2, sh_lI0, sh_lI1, sh_lI2, sh_sI0, sh_sI1, sh_sI2, sh_len0, sh_len1, sh_len2, sh_lZ0, sh_sZ0, sh_gJ0, sh_wJ0, sh_lR0, sh_lJ0, sh_sJ0, y_shb hb, y_eo, y_eb, y_eI, y_eJ, y_eR, y_eV, y_in, nI_clamp, cond_true, y_eqI, y_ltI, y_leI, y_lit, nI_toInt, if_true, if_false, if_pos, if_neg, y_bIt, y_bIf, y_band, h4, h5, y_o1]
    · rw [if_neg e2]
      simp (disch := omega) only [sh_is0, sh_gI0, sh_wI0, sh_wZ0, sh_gR0, sh_gR1, sh_gR2, sh_lI0, sh_lI1, sh_lI2, sh_sI0, sh_sI1, sh_sI2, sh_len0, sh_len1, sh_len2, sh_lZ0, sh_sZ0, sh_gJ0, sh_wJ0, sh_lR0, sh_lJ0, sh_sJ0, y_shb hb, y_eo, y_eb, y_eI, y_eJ, y_eR, y_eV, y_in, nI_clamp, cond_true, y_eqI, y_ltI, y_leI, y_lit, nI_toInt, if_true, if_false, if_pos, if_neg, y_bIt, y_bIf, y_band, h4, h5, y_o1]
theorem y_o1n : (y_o1 none).toInt = -1 := by decide
theorem y_o1s (x : Nat) : y_o1 (some x) = nI x := rfl
theorem y_Me_taker (d : Nat) {b : Nat} (hb : y_b3 b) {S : y_S} {I : Nat → Nat → Int32} (J : Nat → Nat → Int64) (hS : y_vM b S I) (hok : y_okM S) {m h r v : Nat} (hm : m < S 1 0) (hh : h < 6) (hr : r < 1000) (hv : v < 64) : zC (d + 2) q_Me_taker [.ref (b + 1), .int (nI m), .int (nI h), .int (nI r), .int (nI v)] (xz_SH, I, J) = some (some (.int (y_o1 (y_tk S 0 m h r v))), (xz_SH, I, J)) := by
  have hI := y_Me_isThere d hb J hS hok hm
  have hO := y_Me_other d hb J hS hok (h := h) hm (by omega)
  have hL := @y_ot_lt S hok m h
  have hS' := hS
  obtain ⟨h0, h1, h2⟩ := hS
  obtain ⟨k1, k2, k3, k4, k5, k6, k7, k8⟩ := hok
  obtain ⟨h3, h4, h5, h6, h7⟩ := h2 m hm
  obtain ⟨g2, g3, g4, _, _, _, g7⟩ := k8 m hm
  refine b_Me_taker _ _ _ _ _ _ _ _ ?_
  unfold y_tk
  by_cases e1 : S 6 m = 0
  · have e1' : (S 6 m == 0) = true := by simpa using e1
    rw [e1'] at hI
    by_cases e2 : r ≤ S 2 m
    · rw [if_pos ⟨e1, e2⟩]
      cases e3 : y_ot S m h with
      | none =>
        rw [e3] at hO
        simp (disch := omega) only [sh_is0, sh_gI0, sh_wI0, sh_wZ0, sh_gR0, sh_gR1, sh_gR2, sh_lI0, sh_lI1, sh_lI2, sh_sI0, sh_sI1, sh_sI2, sh_len0, sh_len1, sh_len2, sh_lZ0, sh_sZ0, sh_gJ0, sh_wJ0, sh_lR0, sh_lJ0, sh_sJ0, y_shb hb, y_eo, y_eb, y_eI, y_eJ, y_eR, y_eV, y_in, nI_clamp, cond_true, y_eqI, y_ltI, y_leI, y_lit, nI_toInt, if_true, if_false, if_pos, if_neg, y_bIt, y_bIf, y_band, hI, hO, h3, y_o1n, y_o1]
      | some x =>
        rw [e3] at hO
        have hx := hL hm e3
        dsimp only
        cases e4 : v.testBit x with
        | true =>
          rw [if_pos (Or.inl rfl)]
          simp (disch := omega) only [sh_is0, sh_gI0, sh_wI0, sh_wZ0, sh_gR0, sh_gR1, sh_gR2, sh_lI0, sh_lI1, sh_lI2, sh_sI0, sh_sI1, sh_sI2, sh_len0, sh_len1, sh_len2, sh_lZ0, sh_sZ0, sh_gJ0, sh_wJ0, sh_lR0, sh_lJ0, sh_sJ0, y_shb hb, y_eo, y_eb, y_eI, y_eJ, y_eR, y_eV, y_in, nI_clamp, cond_true, y_eqI, y_ltI, y_leI, y_lit, nI_toInt, if_true, if_false, if_pos, if_neg, y_bIt, y_bIf, y_band, hI, hO, h3, y_o1s, y_HR_hasBit d hv hx.2, e4]
          rfl
        | false =>
          rw [if_neg (by simp)]
          simp (disch := omega) only [sh_is0, sh_gI0, sh_wI0, sh_wZ0, sh_gR0, sh_gR1, sh_gR2, sh_lI0, sh_lI1, sh_lI2, sh_sI0, sh_sI1, sh_sI2, sh_len0, sh_len1, sh_len2, sh_lZ0, sh_sZ0, sh_gJ0, sh_wJ0, sh_lR0, sh_lJ0, sh_sJ0, y_shb hb, y_eo, y_eb, y_eI, y_eJ, y_eR, y_eV, y_in, nI_clamp, cond_true, y_eqI, y_ltI, y_leI, y_lit, nI_toInt, if_true, if_false, if_pos, if_neg, y_bIt, y_bIf, y_band, hI, hO, h3, y_o1s, y_HR_hasBit d hv hx.2, e4]
    · rw [if_neg (fun c => e2 c.2)]
      simp (disch := omega) only [sh_is0, sh_gI0, sh_wI0, sh_wZ0, sh_gR0, sh_gR1, sh_gR2, sh_lI0, sh_lI1, sh_lI2, sh_sI0, sh_sI1, sh_sI2, sh_len0, sh_len1, sh_len2, sh_lZ0, sh_sZ0, sh_gJ0, sh_wJ0, sh_lR0, sh_lJ0, sh_sJ0, y_shb hb, y_eo, y_eb, y_eI, y_eJ, y_eR, y_eV, y_in, nI_clamp, cond_true, y_eqI, y_ltI, y_leI, y_lit, nI_toInt, if_true, if_false, if_pos, if_neg, y_bIt, y_bIf, y_band, hI, hO, h3]
      rfl
  · have e1' : (S 6 m == 0) = false := by simpa using e1
    rw [e1'] at hI
    rw [if_neg (fun c => e1 c.1)]
    simp (disch := omega) only [sh_is0, sh_gI0, sh_wI0, sh_wZ0, sh_gR0, sh_gR1, sh_gR2, sh_lI0, sh_lI1, sh_lI2, sh_sI0, sh_sI1, sh_sI2, sh_len0, sh_len1, sh_len2, sh_lZ0, sh_sZ0, sh_gJ0, sh_wJ0, sh_lR0, sh_lJ0, sh_sJ0, y_shb hb, y_eo, y_eb, y_eI, y_eJ, y_eR, y_eV, y_in, nI_clamp, cond_true, y_eqI, y_ltI, y_leI, y_lit, nI_toInt, if_true, if_false, if_pos, if_neg, y_bIt, y_bIf, y_band, hI]
    rfl
theorem y_Me_left_l (d : Nat) {b : Nat} (hb : y_b3 b) {S : y_S} {I : Nat → Nat → Int32} (J : Nat → Nat → Int64) (hS : y_vM b S I) (hok : y_okM S) : ∀ (j m c : Nat), m + j = S 1 0 → zL d q_Me_left 5 [(0, .ref (b + 1)), (1, .int (nI c)), (2, .int (nI m))] (xz_SH, I, J) = some (some (.int (nI (c + y_ct (fun m => S 6 m == 0) j m))), (xz_SH, I, J))
  | 0, m, c, hm => by
    obtain ⟨h0, h1, h2⟩ := hS
    obtain ⟨k1, k2, k3, k4, k5, k6, k7, k8⟩ := hok
    refine b_Me_left_l5 _ _ _ _ _ _ ?_
    simp (disch := omega) only [sh_is0, sh_gI0, sh_wI0, sh_wZ0, sh_gR0, sh_gR1, sh_gR2, sh_lI0, sh_lI1, sh_lI2, sh_sI0, sh_sI1, sh_sI2, sh_len0, sh_len1, sh_len2, sh_lZ0, sh_sZ0, sh_gJ0, sh_wJ0, sh_lR0, sh_lJ0, sh_sJ0, y_shb hb, y_eo, y_eb, y_eI, y_eJ, y_eR, y_eV, y_in, nI_clamp, cond_true, y_eqI, y_ltI, y_leI, y_lit, nI_toInt, if_true, if_false, if_pos, if_neg, y_bIt, y_bIf, y_band, h1]
    rfl
  | j + 1, m, c, hm => by
    have ih := fun c => y_Me_left_l d hb J hS hok j (m + 1) c (by omega)
    obtain ⟨h0, h1, h2⟩ := hS
    obtain ⟨k1, k2, k3, k4, k5, k6, k7, k8⟩ := hok
    obtain ⟨h3, h4, h5, h6, h7⟩ := h2 m (by omega)
    obtain ⟨_, _, _, _, _, _, g7⟩ := k8 m (by omega)
    refine b_Me_left_l5 _ _ _ _ _ _ ?_
    unfold y_ct
    by_cases e1 : S 6 m = 0
    · have e1' : (S 6 m == 0) = true := by simpa using e1
      simp (disch := omega) only [sh_is0, sh_gI0, sh_wI0, sh_wZ0, sh_gR0, sh_gR1, sh_gR2, sh_lI0, sh_lI1, sh_lI2, sh_sI0, sh_sI1, sh_sI2, sh_len0, sh_len1, sh_len2, sh_lZ0, sh_sZ0, sh_gJ0, sh_wJ0, sh_lR0, sh_lJ0, sh_sJ0, y_shb hb, y_eo, y_eb, y_eI, y_eJ, y_eR, y_eV, y_in, nI_clamp, cond_true, y_eqI, y_ltI, y_leI, y_lit, nI_toInt, if_true, if_false, if_pos, if_neg, y_bIt, y_bIf, y_band, h1, h7, y_1, ih, e1', Nat.add_assoc]
    · have e1' : (S 6 m == 0) = false := by simpa using e1
      simp (disch := omega) only [sh_is0, sh_gI0, sh_wI0, sh_wZ0, sh_gR0, sh_gR1, sh_gR2, sh_lI0, sh_lI1, sh_lI2, sh_sI0, sh_sI1, sh_sI2, sh_len0, sh_len1, sh_len2, sh_lZ0, sh_sZ0, sh_gJ0, sh_wJ0, sh_lR0, sh_lJ0, sh_sJ0, y_shb hb, y_eo, y_eb, y_eI, y_eJ, y_eR, y_eV, y_in, nI_clamp, cond_true, y_eqI, y_ltI, y_leI, y_lit, nI_toInt, if_true, if_false, if_pos, if_neg, y_bIt, y_bIf, y_band, h1, h7, y_1, y_p0, ih, e1', Bool.false_eq_true, Nat.zero_add]
/-- how many are there -/
def y_lf (S : y_S) : Nat := y_ct (fun m => S 6 m == 0) (S 1 0) 0
theorem y_lf_le (S : y_S) : y_lf S ≤ S 1 0 := y_ct_le _ _ _
theorem y_Me_left (d : Nat) {b : Nat} (hb : y_b3 b) {S : y_S} {I : Nat → Nat → Int32} (J : Nat → Nat → Int64) (hS : y_vM b S I) (hok : y_okM S) : zC (d + 1) q_Me_left [.ref (b + 1)] (xz_SH, I, J) = some (some (.int (nI (y_lf S))), (xz_SH, I, J)) := by
  refine b_Me_left _ _ _ _ ?_
  have := y_Me_left_l d hb J hS hok (S 1 0) 0 0 (by omega)
  rw [Nat.zero_add] at this
  exact this
theorem y_Mo_left_l (d : Nat) {S : y_S} {I : Nat → Nat → Int32} (J : Nat → Nat → Int64) (hS : y_vR S I) (hok : y_okM S) : ∀ (j m c : Nat), m + j = S 1 0 → zL d q_Mo_left 5 [(0, .ref 92), (1, .int (nI c)), (2, .int (nI m))] (xz_SH, I, J) = some (some (.int (nI (c + y_ct (fun m => S 6 m == 0) j m))), (xz_SH, I, J))
  | 0, m, c, hm => by
    obtain ⟨h0, h1, h2⟩ := hS
    obtain ⟨k1, k2, k3, k4, k5, k6, k7, k8⟩ := hok
    refine b_Mo_left_l5 _ _ _ _ _ _ ?_
    simp (disch := omega) only [sh_is0, sh_gI0, sh_wI0, sh_wZ0, sh_gR0, sh_gR1, sh_gR2, sh_lI0, sh_lI1, sh_lI2, sh_sI0, sh_sI1, sh_sI2, sh_len0, sh_len1, sh_len2, sh_lZ0, sh_sZ0, sh_gJ0, sh_wJ0, sh_lR0, sh_lJ0, sh_sJ0, y_eo, y_eb, y_eI, y_eJ, y_eR, y_eV, y_in, nI_clamp, cond_true, y_eqI, y_ltI, y_leI, y_lit, nI_toInt, if_true, if_false, if_pos, if_neg, y_bIt, y_bIf, y_band, h1]
    rfl
  | j + 1, m, c, hm => by
    have ih := fun c => y_Mo_left_l d J hS hok j (m + 1) c (by omega)
    obtain ⟨h0, h1, h2⟩ := hS
    obtain ⟨k1, k2, k3, k4, k5, k6, k7, k8⟩ := hok
    obtain ⟨h3, h4, h5, h6, h7⟩ := h2 m (by omega)
    obtain ⟨_, _, _, _, _, _, g7⟩ := k8 m (by omega)
    refine b_Mo_left_l5 _ _ _ _ _ _ ?_
    unfold y_ct
    by_cases e1 : S 6 m = 0
    · have e1' : (S 6 m == 0) = true := by simpa using e1
      simp (disch := omega) only [sh_is0, sh_gI0, sh_wI0, sh_wZ0, sh_gR0, sh_gR1, sh_gR2, sh_lI0, sh_lI1, sh_lI2, sh_sI0, sh_sI1, sh_sI2, sh_len0, sh_len1, sh_len2, sh_lZ0, sh_sZ0, sh_gJ0, sh_wJ0, sh_lR0, sh_lJ0, sh_sJ0, y_eo, y_eb, y_eI, y_eJ, y_eR, y_eV, y_in, nI_clamp, cond_true, y_eqI, y_ltI, y_leI, y_lit, nI_toInt, if_true, if_false, if_pos, if_neg, y_bIt, y_bIf, y_band, h1, h7, y_1, ih, e1', Nat.add_assoc]
    · have e1' : (S 6 m == 0) = false := by simpa using e1
      simp (disch := omega) only [sh_is0, sh_gI0, sh_wI0, sh_wZ0, sh_gR0, sh_gR1, sh_gR2, sh_lI0, sh_lI1, sh_lI2, sh_sI0, sh_sI1, sh_sI2, sh_len0, sh_len1, sh_len2, sh_lZ0, sh_sZ0, sh_gJ0, sh_wJ0, sh_lR0, sh_lJ0, sh_sJ0, y_eo, y_eb, y_eI, y_eJ, y_eR, y_eV, y_in, nI_clamp, cond_true, y_eqI, y_ltI, y_leI, y_lit, nI_toInt, if_true, if_false, if_pos, if_neg, y_bIt, y_bIf, y_band, h1, h7, y_1, y_p0, ih, e1', Bool.false_eq_true, Nat.zero_add]
theorem y_Mo_left (d : Nat) {S : y_S} {I : Nat → Nat → Int32} (J : Nat → Nat → Int64) (hS : y_vR S I) (hok : y_okM S) : zC (d + 1) q_Mo_left [.ref 92] (xz_SH, I, J) = some (some (.int (nI (y_lf S))), (xz_SH, I, J)) := by
  refine b_Mo_left _ _ _ _ ?_
  have := y_Mo_left_l d J hS hok (S 1 0) 0 0 (by omega)
  rw [Nat.zero_add] at this
  exact this
theorem y_Mo_otherBy (d : Nat) {S : y_S} {I : Nat → Nat → Int32} (J : Nat → Nat → Int64) (hS : y_vR S I) (hok : y_okM S) {m h : Nat} (hm : m < S 1 0) (hh : h < 2 ^ 31) : zC (d + 1) q_Mo_otherBy [.ref 92, .int (nI m), .int (nI h)] (xz_SH, I, J) = some (some (.int (y_o1 (y_ot S m h))), (xz_SH, I, J)) := by
  obtain ⟨h0, h1, h2⟩ := hS
  obtain ⟨k1, k2, k3, k4, k5, k6, k7, k8⟩ := hok
  obtain ⟨h3, h4, h5, h6, h7⟩ := h2 m hm
  obtain ⟨_, g3, g4, _⟩ := k8 m hm
  refine b_Mo_otherBy _ _ _ _ _ _ ?_
  unfold y_ot
  by_cases e1 : S 3 m = h
  · rw [if_pos e1]
    simp (disch := omega) only [sh_is0, sh_gI0, sh_wI0, sh_wZ0, sh_gR0, sh_gR1, sh_gR2, sh_lI0, sh_lI1, sh_lI2, sh_sI0, sh_sI1, sh_sI2, sh_len0, sh_len1, sh_len2, sh_lZ0, sh_sZ0, sh_gJ0, sh_wJ0, sh_lR0, sh_lJ0, sh_sJ0, y_eo, y_eb, y_eI, y_eJ, y_eR, y_eV, y_in, nI_clamp, cond_true, y_eqI, y_ltI, y_leI, y_lit, nI_toInt, if_true, if_false, if_pos, if_neg, y_bIt, y_bIf, y_band, h4, h5, y_o1]
  · rw [if_neg e1]
    by_cases e2 : S 4 m = h
    · rw [if_pos e2]
      simp (disch := omega) only [sh_is0, sh_gI0, sh_wI0, sh_wZ0, sh_gR0, sh_gR1, sh_gR2, sh_lI0, sh_lI1, sh_lI2, sh_sI0, sh_sI1, sh_sI2, sh_len0, sh_len1, sh_len2, sh_lZ0, sh_sZ0, sh_gJ0, sh_wJ0, sh_lR0, sh_lJ0, sh_sJ0, y_eo, y_eb, y_eI, y_eJ, y_eR, y_eV, y_in, nI_clamp, cond_true, y_eqI, y_ltI, y_leI, y_lit, nI_toInt, if_true, if_false, if_pos, if_neg, y_bIt, y_bIf, y_band, h4, h5, y_o1]
    · rw [if_neg e2]
      simp (disch := omega) only [sh_is0, sh_gI0, sh_wI0, sh_wZ0, sh_gR0, sh_gR1, sh_gR2, sh_lI0, sh_lI1, sh_lI2, sh_sI0, sh_sI1, sh_sI2, sh_len0, sh_len1, sh_len2, sh_lZ0, sh_sZ0, sh_gJ0, sh_wJ0, sh_lR0, sh_lJ0, sh_sJ0, y_eo, y_eb, y_eI, y_eJ, y_eR, y_eV, y_in, nI_clamp, cond_true, y_eqI, y_ltI, y_leI, y_lit, nI_toInt, if_true, if_false, if_pos, if_neg, y_bIt, y_bIf, y_band, h4, h5, y_o1]
/-- what is said against a meeting (both): -13, -11, 0 -/
def y_rf (S : y_S) (x : Int32) : Int32 := if y_rg x 0 (S 1 0 - 1) = true then (if S 6 x.toInt.toNat = 0 then 0 else -11) else -13
theorem y_Me_hasCome (d : Nat) {b : Nat} (hb : y_b3 b) {S : y_S} {I : Nat → Nat → Int32} (J : Nat → Nat → Int64) (hS : y_vM b S I) (hok : y_okM S) (x : Int32) : zC (d + 1) q_Me_hasCome [.ref (b + 1), .int x] (xz_SH, I, J) = some (some (.int (y_bI (y_rg x 0 (S 1 0 - 1)))), (xz_SH, I, J)) := by
  obtain ⟨h0, h1, h2⟩ := hS
  obtain ⟨k1, k2, k3, k4, k5, k6, k7, k8⟩ := hok
  refine b_Me_hasCome _ _ _ _ _ ?_
  cases h : y_rg x 0 (S 1 0 - 1)
  · have h' := y_rgf.mp h
    by_cases h1' : x.toInt < 0 <;> simp (disch := omega) only [sh_is0, sh_gI0, sh_wI0, sh_wZ0, sh_gR0, sh_gR1, sh_gR2, sh_lI0, sh_lI1, sh_lI2, sh_sI0, sh_sI1, sh_sI2, sh_len0, sh_len1, sh_len2, sh_lZ0, sh_sZ0, sh_gJ0, sh_wJ0, sh_lR0, sh_lJ0, sh_sJ0, y_shb hb, y_eo, y_eb, y_eI, y_eJ, y_eR, y_eV, y_in, nI_clamp, cond_true, y_eqI, y_ltI, y_leI, y_lit, nI_toInt, if_true, if_false, if_pos, if_neg, y_bIt, y_bIf, y_band, h1]
  · have h' := y_rgt.mp h
    simp (disch := omega) only [sh_is0, sh_gI0, sh_wI0, sh_wZ0, sh_gR0, sh_gR1, sh_gR2, sh_lI0, sh_lI1, sh_lI2, sh_sI0, sh_sI1, sh_sI2, sh_len0, sh_len1, sh_len2, sh_lZ0, sh_sZ0, sh_gJ0, sh_wJ0, sh_lR0, sh_lJ0, sh_sJ0, y_shb hb, y_eo, y_eb, y_eI, y_eJ, y_eR, y_eV, y_in, nI_clamp, cond_true, y_eqI, y_ltI, y_leI, y_lit, nI_toInt, if_true, if_false, if_pos, if_neg, y_bIt, y_bIf, y_band, h1]
theorem y_Me_refusal (d : Nat) {b : Nat} (hb : y_b3 b) {S : y_S} {I : Nat → Nat → Int32} (J : Nat → Nat → Int64) (hS : y_vM b S I) (hok : y_okM S) (x : Int32) : zC (d + 2) q_Me_refusal [.ref (b + 1), .int x] (xz_SH, I, J) = some (some (.int (y_rf S x)), (xz_SH, I, J)) := by
  have hC := y_Me_hasCome d hb J hS hok x
  obtain ⟨h0, h1, h2⟩ := hS
  obtain ⟨k1, k2, k3, k4, k5, k6, k7, k8⟩ := hok
  refine b_Me_refusal _ _ _ _ _ ?_
  unfold y_rf
  cases h : y_rg x 0 (S 1 0 - 1)
  · rw [h] at hC
    simp (disch := omega) only [sh_is0, sh_gI0, sh_wI0, sh_wZ0, sh_gR0, sh_gR1, sh_gR2, sh_lI0, sh_lI1, sh_lI2, sh_sI0, sh_sI1, sh_sI2, sh_len0, sh_len1, sh_len2, sh_lZ0, sh_sZ0, sh_gJ0, sh_wJ0, sh_lR0, sh_lJ0, sh_sJ0, y_shb hb, y_eo, y_eb, y_eI, y_eJ, y_eR, y_eV, y_in, nI_clamp, cond_true, y_eqI, y_ltI, y_leI, y_lit, nI_toInt, if_true, if_false, if_pos, if_neg, y_bIt, y_bIf, y_band, hC, Bool.false_eq_true]
  · have h' := y_rgt.mp h
    rw [h] at hC
    obtain ⟨m, hm, rfl, hx⟩ := y_of x h'.1
    obtain ⟨_, _, _, _, h7⟩ := h2 m (by omega)
    obtain ⟨_, _, _, _, _, _, g7⟩ := k8 m (by omega)
    simp only [hx, Int.toNat_natCast, if_true]
    by_cases e1 : S 6 m = 0
    · simp (disch := omega) only [sh_is0, sh_gI0, sh_wI0, sh_wZ0, sh_gR0, sh_gR1, sh_gR2, sh_lI0, sh_lI1, sh_lI2, sh_sI0, sh_sI1, sh_sI2, sh_len0, sh_len1, sh_len2, sh_lZ0, sh_sZ0, sh_gJ0, sh_wJ0, sh_lR0, sh_lJ0, sh_sJ0, y_shb hb, y_eo, y_eb, y_eI, y_eJ, y_eR, y_eV, y_in, nI_clamp, cond_true, y_eqI, y_ltI, y_leI, y_lit, nI_toInt, if_true, if_false, if_pos, if_neg, y_bIt, y_bIf, y_band, hC, h7]
    · simp (disch := omega) only [sh_is0, sh_gI0, sh_wI0, sh_wZ0, sh_gR0, sh_gR1, sh_gR2, sh_lI0, sh_lI1, sh_lI2, sh_sI0, sh_sI1, sh_sI2, sh_len0, sh_len1, sh_len2, sh_lZ0, sh_sZ0, sh_gJ0, sh_wJ0, sh_lR0, sh_lJ0, sh_sJ0, y_shb hb, y_eo, y_eb, y_eI, y_eJ, y_eR, y_eV, y_in, nI_clamp, cond_true, y_eqI, y_ltI, y_leI, y_lit, nI_toInt, if_true, if_false, if_pos, if_neg, y_bIt, y_bIf, y_band, hC, h7]
theorem y_Mo_refusal1 (d : Nat) {S : y_S} {I : Nat → Nat → Int32} (J : Nat → Nat → Int64) (hS : y_vR S I) (hok : y_okM S) (x : Int32) : zC (d + 2) q_Mo_refusal1 [.ref 92, .int x] (xz_SH, I, J) = some (some (.int (y_rf S x)), (xz_SH, I, J)) := by
  obtain ⟨h0, h1, h2⟩ := hS
  obtain ⟨k1, k2, k3, k4, k5, k6, k7, k8⟩ := hok
  refine b_Mo_refusal1 _ _ _ _ _ ?_
  have e : (nI (S 1 0) - (1 : Int32)).toInt = (S 1 0 : Int) - 1 := by
    rcases Nat.eq_zero_or_pos (S 1 0) with e0 | e0
    · rw [e0]; decide
    · rw [y_m1 (by omega), nI_toInt (by omega)]
      omega
  unfold y_rf
  cases h : y_rg x 0 (S 1 0 - 1)
  · simp (disch := omega) only [sh_is0, sh_gI0, sh_wI0, sh_wZ0, sh_gR0, sh_gR1, sh_gR2, sh_lI0, sh_lI1, sh_lI2, sh_sI0, sh_sI1, sh_sI2, sh_len0, sh_len1, sh_len2, sh_lZ0, sh_sZ0, sh_gJ0, sh_wJ0, sh_lR0, sh_lJ0, sh_sJ0, y_eo, y_eb, y_eI, y_eJ, y_eR, y_eV, y_in, nI_clamp, cond_true, y_eqI, y_ltI, y_leI, y_lit, nI_toInt, if_true, if_false, if_pos, if_neg, y_bIt, y_bIf, y_band, h1, y_Mo_inH d x _ 0 (l := 0) (by decide) e, h, Bool.false_eq_true]
  · have h' := y_rgt.mp h
    obtain ⟨m, hm, rfl, hx⟩ := y_of x h'.1
    obtain ⟨_, _, _, _, h7⟩ := h2 m (by omega)
    obtain ⟨_, _, _, _, _, _, g7⟩ := k8 m (by omega)
    simp only [hx, Int.toNat_natCast, if_true]
    by_cases e1 : S 6 m = 0
    · simp (disch := omega) only [sh_is0, sh_gI0, sh_wI0, sh_wZ0, sh_gR0, sh_gR1, sh_gR2, sh_lI0, sh_lI1, sh_lI2, sh_sI0, sh_sI1, sh_sI2, sh_len0, sh_len1, sh_len2, sh_lZ0, sh_sZ0, sh_gJ0, sh_wJ0, sh_lR0, sh_lJ0, sh_sJ0, y_eo, y_eb, y_eI, y_eJ, y_eR, y_eV, y_in, nI_clamp, cond_true, y_eqI, y_ltI, y_leI, y_lit, nI_toInt, if_true, if_false, if_pos, if_neg, y_bIt, y_bIf, y_band, h1, y_Mo_inH d _ _ 0 (l := 0) (by decide) e, h, h7]
    · simp (disch := omega) only [sh_is0, sh_gI0, sh_wI0, sh_wZ0, sh_gR0, sh_gR1, sh_gR2, sh_lI0, sh_lI1, sh_lI2, sh_sI0, sh_sI1, sh_sI2, sh_len0, sh_len1, sh_len2, sh_lZ0, sh_sZ0, sh_gJ0, sh_wJ0, sh_lR0, sh_lJ0, sh_sJ0, y_eo, y_eb, y_eI, y_eJ, y_eR, y_eV, y_in, nI_clamp, cond_true, y_eqI, y_ltI, y_leI, y_lit, nI_toInt, if_true, if_false, if_pos, if_neg, y_bIt, y_bIf, y_band, h1, y_Mo_inH d _ _ 0 (l := 0) (by decide) e, h, h7]
