/-! SETS: who has a REACH, points, cuts, the least cut -/
def y_bits (P : Nat → Bool) : Nat → Nat → Nat → Nat
  | 0, _, a => a
  | j + 1, m, a => y_bits P j (m + 1) (if P m = true then a ||| 1 <<< m else a)
theorem y_or64 : ∀ a, a < 64 → ∀ m, m < 6 → (a ||| 1 <<< m) < 64 := by decide +kernel
theorem y_lt0o (o : Option Nat) (h : ∀ t, o = some t → t ≤ 99) : ((y_o5 o).toInt < 0) = (o.isSome = false) := by
  cases o with
  | none => simp [y_o5n]
  | some t =>
    rw [y_o5s, nI_toInt (by have := h t rfl; omega)]
    simp
theorem y_ge0o (o : Option Nat) (h : ∀ t, o = some t → t ≤ 99) : (0 ≤ (y_o5 o).toInt) = (o.isSome = true) := by
  cases o with
  | none => simp [y_o5n]
  | some t =>
    rw [y_o5s, nI_toInt (by have := h t rfl; omega)]
    simp
theorem y_eq5o (o : Option Nat) (h : ∀ t, o = some t → t ≤ 99) : ((y_o5 o).toInt = -5) = (o.isSome = false) := by
  cases o with
  | none => simp [y_o5n]
  | some t =>
    rw [y_o5s, nI_toInt (by have := h t rfl; omega)]
    simp
/-- what the reference's tellReaches leaves -/
def y_tf (I I' : Nat → Nat → Int32) (J J' : Nat → Nat → Int64) : Prop := (∀ q, q ≠ 92 → q ≠ 108 → q ≠ 109 → q ≠ 110 → I' q = I q) ∧ (∀ j, j < 28 ∨ 38 ≤ j → I' 92 j = I 92 j) ∧ ∀ q, q ≠ 92 → J' q = J q
theorem y_tf_sm {I I' : Nat → Nat → Int32} {J J' : Nat → Nat → Int64} (h : y_tf I I' J J') : y_sm I I' J J' := ⟨fun q g1 g2 g3 => h.1 q (by omega) (by omega) (by omega) (by omega), h.2.1, fun q _ g => h.2.2 q g⟩
theorem y_vR_tf {S : y_S} {I I' : Nat → Nat → Int32} {J J' : Nat → Nat → Int64} (h : y_tf I I' J J') (hR : y_vR S I) : y_vR S I' := y_vR_of (fun q _ _ => h.1 q (by omega) (by omega) (by omega) (by omega)) (fun j _ => h.2.1 j (by omega)) hR
theorem y_Mo_tell_l (d : Nat) {S : y_S} (hok : y_okM S) : ∀ (j p : Nat) (I : Nat → Nat → Int32) (J : Nat → Nat → Int64), p + j = S 0 0 → y_vR S I → ∃ I' J', zL (d + 12) q_Mo_tellReaches 3 [(0, .ref 92), (1, .int (nI p))] (xz_SH, I, J) = some (none, (xz_SH, I', J')) ∧ y_tf I I' J J' ∧ (∀ i, p ≤ i → i < S 0 0 → I' 110 i = y_o5 (y_rc S 0 (S 0 4) i)) ∧ ∀ i, i < p → I' 110 i = I 110 i
  | 0, p, I, J, hp, hR => by
    obtain ⟨k1, k2, k3, k4, k5, k6, k7, k8⟩ := id hok
    refine ⟨I, J, ?_, ⟨fun _ _ _ _ _ => rfl, fun _ _ => rfl, fun _ _ => rfl⟩, fun i h1 h2 => by omega, fun _ _ => rfl⟩
    refine b_Mo_tellReaches_l3 _ _ _ _ _ ?_
    simp (maxSteps := 1000000) (disch := omega) only [sh_is0, sh_gI0, sh_wI0, sh_wZ0, sh_gR0, sh_gR1, sh_gR2, sh_lI0, sh_lI1, sh_lI2, sh_sI0, sh_sI1, sh_sI2, sh_len0, sh_len1, sh_len2, sh_lZ0, sh_sZ0, sh_gJ0, sh_wJ0, sh_lR0, sh_lJ0, sh_sJ0, y_eo, y_eb, y_eI, y_eJ, y_eR, y_eV, y_in, nI_clamp, cond_true, y_eqI, y_ltI, y_leI, y_lit, nI_toInt, if_true, if_false, if_pos, if_neg, y_bIt, y_bIf, y_band, hR.1.1]
  | j + 1, p, I, J, hp, hR => by
    obtain ⟨k1, k2, k3, k4, k5, k6, k7, k8⟩ := id hok
    obtain ⟨I1, J1, f1, f2⟩ := y_Mo_reachOf d hok (p := p) (by omega) J hR
    have hR1 := y_vR_ff f2 hR
    obtain ⟨I', J', g1, g2, g3, g4⟩ := y_Mo_tell_l d hok j (p + 1) (xz_up I1 110 p (y_o5 (y_rc S 0 (S 0 4) p))) J1 (by omega) (y_vR_of (fun q _ _ => y_up_r (by omega)) (fun j _ => y_up_n (by omega)) hR1)
    refine ⟨I', J', ?_, ⟨fun q h1 h2 h3 h4 => ?_, fun j hj => ?_, fun q hq => ?_⟩, fun i h1 h2 => ?_, fun i hi => ?_⟩
    · refine b_Mo_tellReaches_l3 _ _ _ _ _ ?_
      simp (maxSteps := 1000000) (disch := omega) only [sh_is0, sh_gI0, sh_wI0, sh_wZ0, sh_gR0, sh_gR1, sh_gR2, sh_lI0, sh_lI1, sh_lI2, sh_sI0, sh_sI1, sh_sI2, sh_len0, sh_len1, sh_len2, sh_lZ0, sh_sZ0, sh_gJ0, sh_wJ0, sh_lR0, sh_lJ0, sh_sJ0, y_eo, y_eb, y_eI, y_eJ, y_eR, y_eV, y_in, nI_clamp, cond_true, y_eqI, y_ltI, y_leI, y_lit, nI_toInt, if_true, if_false, if_pos, if_neg, y_bIt, y_bIf, y_band, hR.1.1, f1, y_1, g1]
    · rw [g2.1 q h1 h2 h3 h4, y_up_r h4, f2.1 q h1 h2 h3]
    · rw [g2.2.1 j hj, y_up_n (by omega), f2.2.1 j hj]
    · rw [g2.2.2 q hq, f2.2.2 q hq]
    · by_cases e : i = p
      · rw [e, g4 p (by omega), y_up_e ⟨rfl, rfl⟩]
      · exact g3 i (by omega) h2
    · rw [g4 i (by omega), y_up_n (by omega), f2.1 110 (by omega) (by omega) (by omega)]
theorem y_Mo_tell (d : Nat) {S : y_S} (hok : y_okM S) {I : Nat → Nat → Int32} (J : Nat → Nat → Int64) (hR : y_vR S I) : ∃ I' J', zC (d + 13) q_Mo_tellReaches [.ref 92] (xz_SH, I, J) = some (none, (xz_SH, I', J')) ∧ y_tf I I' J J' ∧ ∀ i, i < S 0 0 → I' 110 i = y_o5 (y_rc S 0 (S 0 4) i) := by
  obtain ⟨I', J', f1, f2, f3, _⟩ := y_Mo_tell_l d hok (S 0 0) 0 I J (by omega) hR
  exact ⟨I', J', b_Mo_tellReaches _ _ _ _ f1, f2, fun i hi => f3 i (by omega) hi⟩
/-! reached -/
theorem y_HR_reached_l (d : Nat) {S : y_S} (hok : y_okM S) {a : y_A} {I : Nat → Nat → Int32} (J : Nat → Nat → Int64) (h0 : I 1 0 = nI (S 0 0)) (hA : y_vA a I) : ∀ (j p b : Nat), p + j = S 0 0 → b < 64 → zL (d + 1) q_HR_reached 13 [(0, .ref 0), (1, .int (nI b)), (2, .int (nI p))] (xz_SH, I, J) = some (some (.int (nI (y_bits (fun p => (a p).isSome) j p b))), (xz_SH, I, J))
  | 0, p, b, hp, hb => by
    obtain ⟨k1, k2, k3, k4, k5, k6, k7, k8⟩ := id hok
    refine b_HR_reached_l13 _ _ _ _ _ _ ?_
    simp (maxSteps := 1000000) (disch := omega) only [sh_is0, sh_gI0, sh_wI0, sh_wZ0, sh_gR0, sh_gR1, sh_gR2, sh_lI0, sh_lI1, sh_lI2, sh_sI0, sh_sI1, sh_sI2, sh_len0, sh_len1, sh_len2, sh_lZ0, sh_sZ0, sh_gJ0, sh_wJ0, sh_lR0, sh_lJ0, sh_sJ0, y_eo, y_eb, y_eI, y_eJ, y_eR, y_eV, y_in, nI_clamp, cond_true, y_eqI, y_ltI, y_leI, y_lit, nI_toInt, if_true, if_false, if_pos, if_neg, y_bIt, y_bIf, y_band, h0]
    rfl
  | j + 1, p, b, hp, hb => by
    obtain ⟨k1, k2, k3, k4, k5, k6, k7, k8⟩ := id hok
    have ih := fun b hb => y_HR_reached_l d hok J h0 hA j (p + 1) b (by omega) hb
    have hl := (hA p (by omega)).2
    have hO := y_Re_of d J hA (show p < 6 by omega)
    refine b_HR_reached_l13 _ _ _ _ _ _ ?_
    show _ = some (some (Value.int (nI (y_bits (fun p => (a p).isSome) j (p + 1) (if (a p).isSome = true then b ||| 1 <<< p else b)))), ((xz_SH, I, J) : xz_M))
    cases e : (a p).isSome with
    | false =>
      rw [← ih (if false = true then b ||| 1 <<< p else b) (by simpa using hb)]
      simp (maxSteps := 1000000) (disch := omega) only [sh_is0, sh_gI0, sh_wI0, sh_wZ0, sh_gR0, sh_gR1, sh_gR2, sh_lI0, sh_lI1, sh_lI2, sh_sI0, sh_sI1, sh_sI2, sh_len0, sh_len1, sh_len2, sh_lZ0, sh_sZ0, sh_gJ0, sh_wJ0, sh_lR0, sh_lJ0, sh_sJ0, y_eo, y_eb, y_eI, y_eJ, y_eR, y_eV, y_in, nI_clamp, cond_true, y_eqI, y_ltI, y_leI, y_lit, nI_toInt, if_true, if_false, if_pos, if_neg, y_bIt, y_bIf, y_band, h0, hO, y_lt0o _ hl, e, y_1, Bool.false_eq_true]
    | true =>
      rw [← ih (if true = true then b ||| 1 <<< p else b) (by rw [if_pos rfl]; exact y_or64 b hb p (by omega))]
      simp (maxSteps := 1000000) (disch := omega) only [sh_is0, sh_gI0, sh_wI0, sh_wZ0, sh_gR0, sh_gR1, sh_gR2, sh_lI0, sh_lI1, sh_lI2, sh_sI0, sh_sI1, sh_sI2, sh_len0, sh_len1, sh_len2, sh_lZ0, sh_sZ0, sh_gJ0, sh_wJ0, sh_lR0, sh_lJ0, sh_sJ0, y_eo, y_eb, y_eI, y_eJ, y_eR, y_eV, y_in, nI_clamp, cond_true, y_eqI, y_ltI, y_leI, y_lit, nI_toInt, if_true, if_false, if_pos, if_neg, y_bIt, y_bIf, y_band, h0, hO, y_lt0o _ hl, e, y_1, Bool.true_eq_false, y_bit1, y_bit2 b hb p (by omega)]
theorem y_Mo_reached_l (d : Nat) {S : y_S} (hok : y_okM S) {a : y_A} {I : Nat → Nat → Int32} (J : Nat → Nat → Int64) (h0 : I 92 0 = nI (S 0 0)) (hA : ∀ p, p < S 0 0 → I 110 p = y_o5 (a p) ∧ ∀ t, a p = some t → t ≤ 99) : ∀ (j p b : Nat), p + j = S 0 0 → b < 64 → zL d q_Mo_reachedSet 7 [(0, .ref 92), (1, .int (nI b)), (2, .int (nI p))] (xz_SH, I, J) = some (some (.int (nI (y_bits (fun p => (a p).isSome) j p b))), (xz_SH, I, J))
  | 0, p, b, hp, hb => by
    obtain ⟨k1, k2, k3, k4, k5, k6, k7, k8⟩ := id hok
    refine b_Mo_reachedSet_l7 _ _ _ _ _ _ ?_
    simp (maxSteps := 1000000) (disch := omega) only [sh_is0, sh_gI0, sh_wI0, sh_wZ0, sh_gR0, sh_gR1, sh_gR2, sh_lI0, sh_lI1, sh_lI2, sh_sI0, sh_sI1, sh_sI2, sh_len0, sh_len1, sh_len2, sh_lZ0, sh_sZ0, sh_gJ0, sh_wJ0, sh_lR0, sh_lJ0, sh_sJ0, y_eo, y_eb, y_eI, y_eJ, y_eR, y_eV, y_in, nI_clamp, cond_true, y_eqI, y_ltI, y_leI, y_lit, nI_toInt, if_true, if_false, if_pos, if_neg, y_bIt, y_bIf, y_band, h0]
    rfl
  | j + 1, p, b, hp, hb => by
    obtain ⟨k1, k2, k3, k4, k5, k6, k7, k8⟩ := id hok
    have ih := fun b hb => y_Mo_reached_l d hok J h0 hA j (p + 1) b (by omega) hb
    obtain ⟨h1, hl⟩ := hA p (by omega)
    refine b_Mo_reachedSet_l7 _ _ _ _ _ _ ?_
    show _ = some (some (Value.int (nI (y_bits (fun p => (a p).isSome) j (p + 1) (if (a p).isSome = true then b ||| 1 <<< p else b)))), ((xz_SH, I, J) : xz_M))
    cases e : (a p).isSome with
    | false =>
      rw [← ih (if false = true then b ||| 1 <<< p else b) (by simpa using hb)]
      simp (maxSteps := 1000000) (disch := omega) only [sh_is0, sh_gI0, sh_wI0, sh_wZ0, sh_gR0, sh_gR1, sh_gR2, sh_lI0, sh_lI1, sh_lI2, sh_sI0, sh_sI1, sh_sI2, sh_len0, sh_len1, sh_len2, sh_lZ0, sh_sZ0, sh_gJ0, sh_wJ0, sh_lR0, sh_lJ0, sh_sJ0, y_eo, y_eb, y_eI, y_eJ, y_eR, y_eV, y_in, nI_clamp, cond_true, y_eqI, y_ltI, y_leI, y_lit, nI_toInt, if_true, if_false, if_pos, if_neg, y_bIt, y_bIf, y_band, h0, h1, y_eq5o _ hl, e, y_1, Bool.false_eq_true]
    | true =>
      rw [← ih (if true = true then b ||| 1 <<< p else b) (by rw [if_pos rfl]; exact y_or64 b hb p (by omega))]
      simp (maxSteps := 1000000) (disch := omega) only [sh_is0, sh_gI0, sh_wI0, sh_wZ0, sh_gR0, sh_gR1, sh_gR2, sh_lI0, sh_lI1, sh_lI2, sh_sI0, sh_sI1, sh_sI2, sh_len0, sh_len1, sh_len2, sh_lZ0, sh_sZ0, sh_gJ0, sh_wJ0, sh_lR0, sh_lJ0, sh_sJ0, y_eo, y_eb, y_eI, y_eJ, y_eR, y_eV, y_in, nI_clamp, cond_true, y_eqI, y_ltI, y_leI, y_lit, nI_toInt, if_true, if_false, if_pos, if_neg, y_bIt, y_bIf, y_band, h0, h1, y_eq5o _ hl, e, y_1, Bool.true_eq_false, y_bit1, y_bit2 b hb p (by omega)]
theorem y_HR_reached (d : Nat) {S : y_S} (hok : y_okM S) {I : Nat → Nat → Int32} (J : Nat → Nat → Int64) (hM : y_vM 1 S I) : ∃ I', zC (d + 5) q_HR_reached [.ref 0] (xz_SH, I, J) = some (some (.int (nI (y_bits (fun p => (y_rc S 0 (S 0 4) p).isSome) (S 0 0) 0 0))), (xz_SH, I', J)) ∧ ∀ q, q ≠ 59 → I' q = I q := by
  obtain ⟨I', f1, f2, f3⟩ := y_Re_fill d (Or.inl rfl) hok hok.2.2.2.2.2.1 J hM
  refine ⟨I', ?_, f3⟩
  refine b_HR_reached _ _ _ _ ?_
  simp (maxSteps := 1000000) (disch := omega) only [sh_is0, sh_gI0, sh_wI0, sh_wZ0, sh_gR0, sh_gR1, sh_gR2, sh_lI0, sh_lI1, sh_lI2, sh_sI0, sh_sI1, sh_sI2, sh_len0, sh_len1, sh_len2, sh_lZ0, sh_sZ0, sh_gJ0, sh_wJ0, sh_lR0, sh_lJ0, sh_sJ0, y_eo, y_eb, y_eI, y_eJ, y_eR, y_eV, y_in, nI_clamp, cond_true, y_eqI, y_ltI, y_leI, y_lit, nI_toInt, if_true, if_false, if_pos, if_neg, y_bIt, y_bIf, y_band, hM.1.2.2.2.2, f1]
  exact y_HR_reached_l (d + 3) hok J (by rw [f3 1 (by omega)]; exact hM.1.1) f2 (S 0 0) 0 0 (by omega) (by decide)
theorem y_Mo_reached (d : Nat) {S : y_S} (hok : y_okM S) {I : Nat → Nat → Int32} (J : Nat → Nat → Int64) (hR : y_vR S I) : ∃ I' J', zC (d + 14) q_Mo_reachedSet [.ref 92] (xz_SH, I, J) = some (some (.int (nI (y_bits (fun p => (y_rc S 0 (S 0 4) p).isSome) (S 0 0) 0 0))), (xz_SH, I', J')) ∧ y_tf I I' J J' := by
  obtain ⟨I', J', f1, f2, f3⟩ := y_Mo_tell d hok J hR
  refine ⟨I', J', ?_, f2⟩
  refine b_Mo_reachedSet _ _ _ _ ?_
  simp (maxSteps := 1000000) (disch := omega) only [sh_is0, sh_gI0, sh_wI0, sh_wZ0, sh_gR0, sh_gR1, sh_gR2, sh_lI0, sh_lI1, sh_lI2, sh_sI0, sh_sI1, sh_sI2, sh_len0, sh_len1, sh_len2, sh_lZ0, sh_sZ0, sh_gJ0, sh_wJ0, sh_lR0, sh_lJ0, sh_sJ0, y_eo, y_eb, y_eI, y_eJ, y_eR, y_eV, y_in, nI_clamp, cond_true, y_eqI, y_ltI, y_leI, y_lit, nI_toInt, if_true, if_false, if_pos, if_neg, y_bIt, y_bIf, y_band, f1]
  exact y_Mo_reached_l (d + 13) hok J' (y_vR_tf f2 hR).1.1 (fun p hp => ⟨f3 p hp, fun t ht => y_rc_le hok hok.2.2.2.2.2.1 ht⟩) (S 0 0) 0 0 (by omega) (by decide)
/-! cuts -/
def y_mc (S : y_S) (v : Nat) : Bool := decide (v < 1 <<< S 0 0) && (!v.testBit (S 0 2) && !v.testBit (S 0 3))
theorem y_shl : ∀ n, n < 7 → (1 <<< n : Nat) ≤ 64 ∧ 0 < (1 <<< n : Nat) := by decide +kernel
theorem y_HR_mayCut (d : Nat) {S : y_S} (hok : y_okM S) {I : Nat → Nat → Int32} (J : Nat → Nat → Int64) (hM : y_vM 1 S I) {v : Nat} (hv : v < 64) : zC (d + 2) q_HR_mayCut [.ref 0, .int (nI v)] (xz_SH, I, J) = some (some (.int (y_bI (y_mc S v))), (xz_SH, I, J)) := by
  obtain ⟨k1, k2, k3, k4, k5, k6, k7, k8⟩ := id hok
  obtain ⟨⟨c0, c1, c2, c3, c4⟩, h1, h2⟩ := hM
  have h64 := y_shl (S 0 0) (by omega)
  have b2 := y_HR_hasBit d hv (show S 0 2 < 6 by omega) (xz_SH, I, J)
  have b3 := y_HR_hasBit d hv (show S 0 3 < 6 by omega) (xz_SH, I, J)
  refine b_HR_mayCut _ _ _ _ _ ?_
  unfold y_mc
  by_cases e : v < 1 <<< S 0 0
  · rw [decide_eq_true e]
    cases e2 : v.testBit (S 0 2) with
    | true =>
      rw [e2] at b2
      simp (maxSteps := 1000000) (disch := omega) only [sh_is0, sh_gI0, sh_wI0, sh_wZ0, sh_gR0, sh_gR1, sh_gR2, sh_lI0, sh_lI1, sh_lI2, sh_sI0, sh_sI1, sh_sI2, sh_len0, sh_len1, sh_len2, sh_lZ0, sh_sZ0, sh_gJ0, sh_wJ0, sh_lR0, sh_lJ0, sh_sJ0, y_eo, y_eb, y_eI, y_eJ, y_eR, y_eV, y_in, nI_clamp, cond_true, y_eqI, y_ltI, y_leI, y_lit, nI_toInt, if_true, if_false, if_pos, if_neg, y_bIt, y_bIf, y_band, c0, c2, y_bit1, b2, Bool.not_true, Bool.false_and, Bool.and_false]
    | false =>
      rw [e2] at b2
      cases e3 : v.testBit (S 0 3) with
      | true =>
        rw [e3] at b3
        simp (maxSteps := 1000000) (disch := omega) only [sh_is0, sh_gI0, sh_wI0, sh_wZ0, sh_gR0, sh_gR1, sh_gR2, sh_lI0, sh_lI1, sh_lI2, sh_sI0, sh_sI1, sh_sI2, sh_len0, sh_len1, sh_len2, sh_lZ0, sh_sZ0, sh_gJ0, sh_wJ0, sh_lR0, sh_lJ0, sh_sJ0, y_eo, y_eb, y_eI, y_eJ, y_eR, y_eV, y_in, nI_clamp, cond_true, y_eqI, y_ltI, y_leI, y_lit, nI_toInt, if_true, if_false, if_pos, if_neg, y_bIt, y_bIf, y_band, c0, c2, c3, y_bit1, b2, b3, Bool.not_true, Bool.not_false, Bool.true_and]
      | false =>
        rw [e3] at b3
        simp (maxSteps := 1000000) (disch := omega) only [sh_is0, sh_gI0, sh_wI0, sh_wZ0, sh_gR0, sh_gR1, sh_gR2, sh_lI0, sh_lI1, sh_lI2, sh_sI0, sh_sI1, sh_sI2, sh_len0, sh_len1, sh_len2, sh_lZ0, sh_sZ0, sh_gJ0, sh_wJ0, sh_lR0, sh_lJ0, sh_sJ0, y_eo, y_eb, y_eI, y_eJ, y_eR, y_eV, y_in, nI_clamp, cond_true, y_eqI, y_ltI, y_leI, y_lit, nI_toInt, if_true, if_false, if_pos, if_neg, y_bIt, y_bIf, y_band, c0, c2, c3, y_bit1, b2, b3, Bool.not_false, Bool.true_and]
  · rw [decide_eq_false e]
    simp (maxSteps := 1000000) (disch := omega) only [sh_is0, sh_gI0, sh_wI0, sh_wZ0, sh_gR0, sh_gR1, sh_gR2, sh_lI0, sh_lI1, sh_lI2, sh_sI0, sh_sI1, sh_sI2, sh_len0, sh_len1, sh_len2, sh_lZ0, sh_sZ0, sh_gJ0, sh_wJ0, sh_lR0, sh_lJ0, sh_sJ0, y_eo, y_eb, y_eI, y_eJ, y_eR, y_eV, y_in, nI_clamp, cond_true, y_eqI, y_ltI, y_leI, y_lit, nI_toInt, if_true, if_false, if_pos, if_neg, y_bIt, y_bIf, y_band, c0, y_bit1, Bool.false_and]
theorem y_HR_mayCut0 (d : Nat) {S : y_S} (hok : y_okM S) {I : Nat → Nat → Int32} (J : Nat → Nat → Int64) (hM : y_vM 1 S I) {x : Int32} (hx : ¬ (0 ≤ x.toInt ∧ x.toInt < 1 <<< S 0 0)) : zC (d + 2) q_HR_mayCut [.ref 0, .int x] (xz_SH, I, J) = some (some (.int 0), (xz_SH, I, J)) := by
  obtain ⟨k1, k2, k3, k4, k5, k6, k7, k8⟩ := id hok
  obtain ⟨⟨c0, c1, c2, c3, c4⟩, h1, h2⟩ := hM
  have h64 := y_shl (S 0 0) (by omega)
  refine b_HR_mayCut _ _ _ _ _ ?_
  by_cases e : x.toInt < 0
  · simp (maxSteps := 1000000) (disch := omega) only [sh_is0, sh_gI0, sh_wI0, sh_wZ0, sh_gR0, sh_gR1, sh_gR2, sh_lI0, sh_lI1, sh_lI2, sh_sI0, sh_sI1, sh_sI2, sh_len0, sh_len1, sh_len2, sh_lZ0, sh_sZ0, sh_gJ0, sh_wJ0, sh_lR0, sh_lJ0, sh_sJ0, y_eo, y_eb, y_eI, y_eJ, y_eR, y_eV, y_in, nI_clamp, cond_true, y_eqI, y_ltI, y_leI, y_lit, nI_toInt, if_true, if_false, if_pos, if_neg, y_bIt, y_bIf, y_band]
  · have e2 : (((1 <<< S 0 0 : Nat) : Int)) ≤ x.toInt := by
      omega
    simp (maxSteps := 1000000) (disch := omega) only [sh_is0, sh_gI0, sh_wI0, sh_wZ0, sh_gR0, sh_gR1, sh_gR2, sh_lI0, sh_lI1, sh_lI2, sh_sI0, sh_sI1, sh_sI2, sh_len0, sh_len1, sh_len2, sh_lZ0, sh_sZ0, sh_gJ0, sh_wJ0, sh_lR0, sh_lJ0, sh_sJ0, y_eo, y_eb, y_eI, y_eJ, y_eR, y_eV, y_in, nI_clamp, cond_true, y_eqI, y_ltI, y_leI, y_lit, nI_toInt, if_true, if_false, if_pos, if_neg, y_bIt, y_bIf, y_band, c0, y_bit1]
theorem y_HR_cutsAll (d : Nat) {S : y_S} (hok : y_okM S) {I : Nat → Nat → Int32} (J : Nat → Nat → Int64) (hM : y_vM 1 S I) {v : Nat} (hv : v < 64) (hvf : v.testBit (S 0 2) = false) : ∃ I', zC (d + 4) q_HR_cutsAll [.ref 0, .int (nI v)] (xz_SH, I, J) = some (some (.int (y_bI (!(y_rc S v (S 0 4) (S 0 3)).isSome))), (xz_SH, I', J)) ∧ ∀ q, q ≠ 59 → I' q = I q := by
  obtain ⟨k1, k2, k3, k4, k5, k6, k7, k8⟩ := id hok
  obtain ⟨I', f1, f2, f3⟩ := y_Re_fillWithout d (Or.inl rfl) hok (y_mis_no S) hv hvf k6 J hM
  refine ⟨I', ?_, f3⟩
  have hO := y_Re_of (d + 2) J f2 (show S 0 3 < 6 by omega)
  have hl := (f2 (S 0 3) (by omega)).2
  have e1 : ∀ k, I' 1 k = I 1 k := fun k => by rw [f3 1 (by omega)]
  refine b_HR_cutsAll _ _ _ _ _ ?_
  cases e : (y_rc S v (S 0 4) (S 0 3)).isSome with
  | false => simp (maxSteps := 1000000) (disch := omega) only [sh_is0, sh_gI0, sh_wI0, sh_wZ0, sh_gR0, sh_gR1, sh_gR2, sh_lI0, sh_lI1, sh_lI2, sh_sI0, sh_sI1, sh_sI2, sh_len0, sh_len1, sh_len2, sh_lZ0, sh_sZ0, sh_gJ0, sh_wJ0, sh_lR0, sh_lJ0, sh_sJ0, y_eo, y_eb, y_eI, y_eJ, y_eR, y_eV, y_in, nI_clamp, cond_true, y_eqI, y_ltI, y_leI, y_lit, nI_toInt, if_true, if_false, if_pos, if_neg, y_bIt, y_bIf, y_band, hM.1.2.2.2.2, f1, e1, hM.1.2.2.2.1, hO, y_ge0o _ hl, e, Bool.false_eq_true, Bool.not_false]
  | true => simp (maxSteps := 1000000) (disch := omega) only [sh_is0, sh_gI0, sh_wI0, sh_wZ0, sh_gR0, sh_gR1, sh_gR2, sh_lI0, sh_lI1, sh_lI2, sh_sI0, sh_sI1, sh_sI2, sh_len0, sh_len1, sh_len2, sh_lZ0, sh_sZ0, sh_gJ0, sh_wJ0, sh_lR0, sh_lJ0, sh_sJ0, y_eo, y_eb, y_eI, y_eJ, y_eR, y_eV, y_in, nI_clamp, cond_true, y_eqI, y_ltI, y_leI, y_lit, nI_toInt, if_true, if_false, if_pos, if_neg, y_bIt, y_bIf, y_band, hM.1.2.2.2.2, f1, e1, hM.1.2.2.2.1, hO, y_ge0o _ hl, e, Bool.not_true]
theorem y_Mo_isSet (d : Nat) {S : y_S} (hok : y_okM S) {I : Nat → Nat → Int32} (J : Nat → Nat → Int64) (hR : y_vR S I) {v : Nat} (hv : v < 64) : zC (d + 2) q_Mo_isSet [.ref 92, .int (nI v)] (xz_SH, I, J) = some (some (.int (y_bI (y_mc S v))), (xz_SH, I, J)) := by
  obtain ⟨k1, k2, k3, k4, k5, k6, k7, k8⟩ := id hok
  obtain ⟨⟨c0, c1, c2, c3, c4⟩, h1, h2⟩ := hR
  have h64 := y_shl (S 0 0) (by omega)
  have b2 := y_Mo_has d hv (show S 0 2 < 6 by omega) (xz_SH, I, J)
  have b3 := y_Mo_has d hv (show S 0 3 < 6 by omega) (xz_SH, I, J)
  have hin : ∀ M, zC (d + 1) q_Mo_in [.long (Int32.toInt64 (nI v)), .long (0 : Int64), .long (Int32.toInt64 (nI (1 <<< S 0 0) - (1 : Int32)))] M = some (some (.int (y_bI (decide (v < 1 <<< S 0 0)))), M) := by
    intro M
    rw [y_Mo_inH d (nI v) _ 0 (l := 0) (h := ((1 <<< S 0 0 : Nat) : Int) - 1) (by decide) (by rw [y_m1 (by omega), nI_toInt (by omega)]; omega)]
    unfold y_rg
    rw [nI_toInt (by omega)]
    have e : decide (0 ≤ (v : Int) ∧ (v : Int) ≤ ((1 <<< S 0 0 : Nat) : Int) - 1) = decide (v < 1 <<< S 0 0) := decide_eq_decide.mpr (by omega)
    rw [e]
  refine b_Mo_isSet _ _ _ _ _ ?_
  unfold y_mc
  by_cases e : v < 1 <<< S 0 0
  · rw [decide_eq_true e] at hin ⊢
    cases e2 : v.testBit (S 0 2) with
    | true =>
      rw [e2] at b2
      simp (maxSteps := 1000000) (disch := omega) only [sh_is0, sh_gI0, sh_wI0, sh_wZ0, sh_gR0, sh_gR1, sh_gR2, sh_lI0, sh_lI1, sh_lI2, sh_sI0, sh_sI1, sh_sI2, sh_len0, sh_len1, sh_len2, sh_lZ0, sh_sZ0, sh_gJ0, sh_wJ0, sh_lR0, sh_lJ0, sh_sJ0, y_eo, y_eb, y_eI, y_eJ, y_eR, y_eV, y_in, nI_clamp, cond_true, y_eqI, y_ltI, y_leI, y_lit, nI_toInt, if_true, if_false, if_pos, if_neg, y_bIt, y_bIf, y_band, c0, c2, y_bit1, hin, b2, Bool.not_true, Bool.false_and, Bool.and_false]
    | false =>
      rw [e2] at b2
      cases e3 : v.testBit (S 0 3) with
      | true =>
        rw [e3] at b3
        simp (maxSteps := 1000000) (disch := omega) only [sh_is0, sh_gI0, sh_wI0, sh_wZ0, sh_gR0, sh_gR1, sh_gR2, sh_lI0, sh_lI1, sh_lI2, sh_sI0, sh_sI1, sh_sI2, sh_len0, sh_len1, sh_len2, sh_lZ0, sh_sZ0, sh_gJ0, sh_wJ0, sh_lR0, sh_lJ0, sh_sJ0, y_eo, y_eb, y_eI, y_eJ, y_eR, y_eV, y_in, nI_clamp, cond_true, y_eqI, y_ltI, y_leI, y_lit, nI_toInt, if_true, if_false, if_pos, if_neg, y_bIt, y_bIf, y_band, c0, c2, c3, y_bit1, hin, b2, b3, Bool.not_true, Bool.not_false, Bool.true_and]
      | false =>
        rw [e3] at b3
        simp (maxSteps := 1000000) (disch := omega) only [sh_is0, sh_gI0, sh_wI0, sh_wZ0, sh_gR0, sh_gR1, sh_gR2, sh_lI0, sh_lI1, sh_lI2, sh_sI0, sh_sI1, sh_sI2, sh_len0, sh_len1, sh_len2, sh_lZ0, sh_sZ0, sh_gJ0, sh_wJ0, sh_lR0, sh_lJ0, sh_sJ0, y_eo, y_eb, y_eI, y_eJ, y_eR, y_eV, y_in, nI_clamp, cond_true, y_eqI, y_ltI, y_leI, y_lit, nI_toInt, if_true, if_false, if_pos, if_neg, y_bIt, y_bIf, y_band, c0, c2, c3, y_bit1, hin, b2, b3, Bool.not_false, Bool.true_and]
  · rw [decide_eq_false e] at hin ⊢
    simp (maxSteps := 1000000) (disch := omega) only [sh_is0, sh_gI0, sh_wI0, sh_wZ0, sh_gR0, sh_gR1, sh_gR2, sh_lI0, sh_lI1, sh_lI2, sh_sI0, sh_sI1, sh_sI2, sh_len0, sh_len1, sh_len2, sh_lZ0, sh_sZ0, sh_gJ0, sh_wJ0, sh_lR0, sh_lJ0, sh_sJ0, y_eo, y_eb, y_eI, y_eJ, y_eR, y_eV, y_in, nI_clamp, cond_true, y_eqI, y_ltI, y_leI, y_lit, nI_toInt, if_true, if_false, if_pos, if_neg, y_bIt, y_bIf, y_band, c0, y_bit1, hin, Bool.false_and]
theorem y_Mo_isSet0 (d : Nat) {S : y_S} (hok : y_okM S) {I : Nat → Nat → Int32} (J : Nat → Nat → Int64) (hR : y_vR S I) {x : Int32} (hx : ¬ (0 ≤ x.toInt ∧ x.toInt < 1 <<< S 0 0)) : zC (d + 2) q_Mo_isSet [.ref 92, .int x] (xz_SH, I, J) = some (some (.int 0), (xz_SH, I, J)) := by
  obtain ⟨k1, k2, k3, k4, k5, k6, k7, k8⟩ := id hok
  obtain ⟨⟨c0, c1, c2, c3, c4⟩, h1, h2⟩ := hR
  have h64 := y_shl (S 0 0) (by omega)
  have hin : ∀ M, zC (d + 1) q_Mo_in [.long (Int32.toInt64 x), .long (0 : Int64), .long (Int32.toInt64 (nI (1 <<< S 0 0) - (1 : Int32)))] M = some (some (.int (y_bI false)), M) := by
    intro M
    rw [y_Mo_inH d x _ 0 (l := 0) (h := ((1 <<< S 0 0 : Nat) : Int) - 1) (by decide) (by rw [y_m1 (by omega), nI_toInt (by omega)]; omega)]
    rw [y_rgf.mpr (by omega)]
  refine b_Mo_isSet _ _ _ _ _ ?_
  simp (maxSteps := 1000000) (disch := omega) only [sh_is0, sh_gI0, sh_wI0, sh_wZ0, sh_gR0, sh_gR1, sh_gR2, sh_lI0, sh_lI1, sh_lI2, sh_sI0, sh_sI1, sh_sI2, sh_len0, sh_len1, sh_len2, sh_lZ0, sh_sZ0, sh_gJ0, sh_wJ0, sh_lR0, sh_lJ0, sh_sJ0, y_eo, y_eb, y_eI, y_eJ, y_eR, y_eV, y_in, nI_clamp, cond_true, y_eqI, y_ltI, y_leI, y_lit, nI_toInt, if_true, if_false, if_pos, if_neg, y_bIt, y_bIf, y_band, c0, y_bit1, hin]
theorem y_s_cut (x : Int32) : zSI zR q_HR_cut q_Mo_cut [.int x] := by
  refine y_simI fun S hok hox => ?_
  obtain ⟨k1, k2, k3, k4, k5, k6, k7, k8⟩ := id hok
  have h64 := y_shl (S 0 0) (by omega)
  by_cases hx : 0 ≤ x.toInt ∧ x.toInt < 1 <<< S 0 0
  · obtain ⟨v, hv, rfl, hxv⟩ := y_of x hx.1
    have hv64 : v < 64 := by
      omega
    cases e : y_mc S v with
    | false =>
      refine ⟨-2, fun I J hZ => ⟨I, J, ?_, y_sm_r I J⟩, fun I J hZ => ⟨I, J, ?_, y_sm_r I J⟩⟩
      · refine b_HR_cut _ _ _ _ _ ?_
        simp (maxSteps := 1000000) (disch := omega) only [sh_is0, sh_gI0, sh_wI0, sh_wZ0, sh_gR0, sh_gR1, sh_gR2, sh_lI0, sh_lI1, sh_lI2, sh_sI0, sh_sI1, sh_sI2, sh_len0, sh_len1, sh_len2, sh_lZ0, sh_sZ0, sh_gJ0, sh_wJ0, sh_lR0, sh_lJ0, sh_sJ0, y_eo, y_eb, y_eI, y_eJ, y_eR, y_eV, y_in, nI_clamp, cond_true, y_eqI, y_ltI, y_leI, y_lit, nI_toInt, if_true, if_false, if_pos, if_neg, y_bIt, y_bIf, y_band, y_HR_mayCut 57 hok J hZ.2.1.1 hv64, e]
      · refine b_Mo_cut _ _ _ _ _ ?_
        simp (maxSteps := 1000000) (disch := omega) only [sh_is0, sh_gI0, sh_wI0, sh_wZ0, sh_gR0, sh_gR1, sh_gR2, sh_lI0, sh_lI1, sh_lI2, sh_sI0, sh_sI1, sh_sI2, sh_len0, sh_len1, sh_len2, sh_lZ0, sh_sZ0, sh_gJ0, sh_wJ0, sh_lR0, sh_lJ0, sh_sJ0, y_eo, y_eb, y_eI, y_eJ, y_eR, y_eV, y_in, nI_clamp, cond_true, y_eqI, y_ltI, y_leI, y_lit, nI_toInt, if_true, if_false, if_pos, if_neg, y_bIt, y_bIf, y_band, y_Mo_isSet 57 hok J hZ.2.2.1.1 hv64, e]
    | true =>
      have hvf : v.testBit (S 0 2) = false := by
        unfold y_mc at e
        cases z : v.testBit (S 0 2)
        · rfl
        · rw [z] at e; simp at e
      refine ⟨y_bI (!(y_rc S v (S 0 4) (S 0 3)).isSome), fun I J hZ => ?_, fun I J hZ => ?_⟩
      · obtain ⟨I', f1, f2⟩ := y_HR_cutsAll 55 hok J hZ.2.1.1 hv64 hvf
        refine ⟨I', J, ?_, y_sm_59 J f2⟩
        refine b_HR_cut _ _ _ _ _ ?_
        cases e2 : (y_rc S v (S 0 4) (S 0 3)).isSome with
        | false =>
          rw [e2] at f1
          simp (maxSteps := 1000000) (disch := omega) only [sh_is0, sh_gI0, sh_wI0, sh_wZ0, sh_gR0, sh_gR1, sh_gR2, sh_lI0, sh_lI1, sh_lI2, sh_sI0, sh_sI1, sh_sI2, sh_len0, sh_len1, sh_len2, sh_lZ0, sh_sZ0, sh_gJ0, sh_wJ0, sh_lR0, sh_lJ0, sh_sJ0, y_eo, y_eb, y_eI, y_eJ, y_eR, y_eV, y_in, nI_clamp, cond_true, y_eqI, y_ltI, y_leI, y_lit, nI_toInt, if_true, if_false, if_pos, if_neg, y_bIt, y_bIf, y_band, y_HR_mayCut 57 hok J hZ.2.1.1 hv64, e, f1, Bool.not_false]
        | true =>
          rw [e2] at f1
          simp (maxSteps := 1000000) (disch := omega) only [sh_is0, sh_gI0, sh_wI0, sh_wZ0, sh_gR0, sh_gR1, sh_gR2, sh_lI0, sh_lI1, sh_lI2, sh_sI0, sh_sI1, sh_sI2, sh_len0, sh_len1, sh_len2, sh_lZ0, sh_sZ0, sh_gJ0, sh_wJ0, sh_lR0, sh_lJ0, sh_sJ0, y_eo, y_eb, y_eI, y_eJ, y_eR, y_eV, y_in, nI_clamp, cond_true, y_eqI, y_ltI, y_leI, y_lit, nI_toInt, if_true, if_false, if_pos, if_neg, y_bIt, y_bIf, y_band, y_HR_mayCut 57 hok J hZ.2.1.1 hv64, e, f1, Bool.not_true]
      · obtain ⟨I', J', f1, f2⟩ := y_Mo_isThereOne 47 hok hv64 J hZ.2.2.1.1
        refine ⟨I', J', ?_, y_ff_sm f2⟩
        refine b_Mo_cut _ _ _ _ _ ?_
        cases e2 : (y_rc S v (S 0 4) (S 0 3)).isSome with
        | false =>
          rw [e2] at f1
          simp (maxSteps := 1000000) (disch := omega) only [sh_is0, sh_gI0, sh_wI0, sh_wZ0, sh_gR0, sh_gR1, sh_gR2, sh_lI0, sh_lI1, sh_lI2, sh_sI0, sh_sI1, sh_sI2, sh_len0, sh_len1, sh_len2, sh_lZ0, sh_sZ0, sh_gJ0, sh_wJ0, sh_lR0, sh_lJ0, sh_sJ0, y_eo, y_eb, y_eI, y_eJ, y_eR, y_eV, y_in, nI_clamp, cond_true, y_eqI, y_ltI, y_leI, y_lit, nI_toInt, if_true, if_false, if_pos, if_neg, y_bIt, y_bIf, y_band, y_Mo_isSet 57 hok J hZ.2.2.1.1 hv64, e, f1, Bool.not_false]
        | true =>
          rw [e2] at f1
          simp (maxSteps := 1000000) (disch := omega) only [sh_is0, sh_gI0, sh_wI0, sh_wZ0, sh_gR0, sh_gR1, sh_gR2, sh_lI0, sh_lI1, sh_lI2, sh_sI0, sh_sI1, sh_sI2, sh_len0, sh_len1, sh_len2, sh_lZ0, sh_sZ0, sh_gJ0, sh_wJ0, sh_lR0, sh_lJ0, sh_sJ0, y_eo, y_eb, y_eI, y_eJ, y_eR, y_eV, y_in, nI_clamp, cond_true, y_eqI, y_ltI, y_leI, y_lit, nI_toInt, if_true, if_false, if_pos, if_neg, y_bIt, y_bIf, y_band, y_Mo_isSet 57 hok J hZ.2.2.1.1 hv64, e, f1, Bool.not_true]
  · refine ⟨-2, fun I J hZ => ⟨I, J, ?_, y_sm_r I J⟩, fun I J hZ => ⟨I, J, ?_, y_sm_r I J⟩⟩
    · refine b_HR_cut _ _ _ _ _ ?_
      simp (maxSteps := 1000000) (disch := omega) only [sh_is0, sh_gI0, sh_wI0, sh_wZ0, sh_gR0, sh_gR1, sh_gR2, sh_lI0, sh_lI1, sh_lI2, sh_sI0, sh_sI1, sh_sI2, sh_len0, sh_len1, sh_len2, sh_lZ0, sh_sZ0, sh_gJ0, sh_wJ0, sh_lR0, sh_lJ0, sh_sJ0, y_eo, y_eb, y_eI, y_eJ, y_eR, y_eV, y_in, nI_clamp, cond_true, y_eqI, y_ltI, y_leI, y_lit, nI_toInt, if_true, if_false, if_pos, if_neg, y_bIt, y_bIf, y_band, y_HR_mayCut0 57 hok J hZ.2.1.1 hx]
    · refine b_Mo_cut _ _ _ _ _ ?_
      simp (maxSteps := 1000000) (disch := omega) only [sh_is0, sh_gI0, sh_wI0, sh_wZ0, sh_gR0, sh_gR1, sh_gR2, sh_lI0, sh_lI1, sh_lI2, sh_sI0, sh_sI1, sh_sI2, sh_len0, sh_len1, sh_len2, sh_lZ0, sh_sZ0, sh_gJ0, sh_wJ0, sh_lR0, sh_lJ0, sh_sJ0, y_eo, y_eb, y_eI, y_eJ, y_eR, y_eV, y_in, nI_clamp, cond_true, y_eqI, y_ltI, y_leI, y_lit, nI_toInt, if_true, if_false, if_pos, if_neg, y_bIt, y_bIf, y_band, y_Mo_isSet0 57 hok J hZ.2.2.1.1 hx]
