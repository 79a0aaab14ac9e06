/-! ODDS, MEAN -/
theorem y_an0 : ((0 : Int32) &&& 1) = 0 := by decide
theorem y_an1 : ((1 : Int32) &&& 1) = 1 := by decide
/-- S with a meeting DROPPED -/
def y_dr (S : y_S) (m : Nat) : y_S := fun k j => if k = 6 ∧ j = m then 1 else S k j
theorem y_dre (S : y_S) (m : Nat) : y_dr S m 6 m = 1 := by unfold y_dr; rw [if_pos ⟨rfl, rfl⟩]
theorem y_drn (S : y_S) (m k j : Nat) (h : k ≠ 6 ∨ j ≠ m) : y_dr S m k j = S k j := by unfold y_dr; rw [if_neg (by omega)]
theorem y_dr_mis {S : y_S} (hok : y_okM S) {m : Nat} (hm : m < S 1 0) : y_mis S (nI m) (y_dr S m) := by
  have h14 := hok.2.2.2.2.2.2.1
  refine ⟨fun k j h => y_drn S m k j (Or.inl h), fun i hi => ?_⟩
  rw [nI_toInt (by omega)]
  by_cases e : i = m
  · rw [e, y_dre]
    omega
  · rw [y_drn S m 6 i (Or.inr e)]
    omega
theorem y_dr_ok {S : y_S} (hok : y_okM S) (m : Nat) : y_okM (y_dr S m) := by
  obtain ⟨k1, k2, k3, k4, k5, k6, k7, k8⟩ := hok
  unfold y_okM
  rw [y_drn S m 0 0 (by omega), y_drn S m 0 1 (by omega), y_drn S m 0 2 (by omega), y_drn S m 0 3 (by omega), y_drn S m 0 4 (by omega), y_drn S m 1 0 (by omega)]
  refine ⟨k1, k2, k3, k4, k5, k6, k7, fun i hi => ?_⟩
  rw [y_drn S m 2 i (by omega), y_drn S m 3 i (by omega), y_drn S m 4 i (by omega), y_drn S m 5 i (by omega)]
  obtain ⟨g1, g2, g3, g4, g5, g6, g7⟩ := k8 i hi
  refine ⟨g1, g2, g3, g4, g5, g6, ?_⟩
  by_cases e : i = m
  · rw [e, y_dre]
    exact Nat.le_refl _
  · rw [y_drn S m 6 i (Or.inr e)]
    exact g7
theorem y_dr_vR {S : y_S} {I : Nat → Nat → Int32} (hR : y_vR S I) (m : Nat) : y_vR (y_dr S m) (xz_up I 93 m 0) := by
  obtain ⟨⟨c0, c1, c2, c3, c4⟩, h1, h2⟩ := hR
  unfold y_vR
  rw [y_drn S m 0 0 (by omega), y_drn S m 0 1 (by omega), y_drn S m 0 2 (by omega), y_drn S m 0 3 (by omega), y_drn S m 0 4 (by omega), y_drn S m 1 0 (by omega)]
  refine ⟨⟨?_, ?_, ?_, ?_, ?_⟩, ?_, fun i hi => ?_⟩
  · rw [y_up_n (by omega)]; exact c0
  · rw [y_up_n (by omega)]; exact c1
  · rw [y_up_n (by omega)]; exact c2
  · rw [y_up_n (by omega)]; exact c3
  · rw [y_up_n (by omega)]; exact c4
  · rw [y_up_n (by omega)]; exact h1
  · rw [y_drn S m 2 i (by omega), y_drn S m 3 i (by omega), y_drn S m 4 i (by omega), y_drn S m 5 i (by omega), y_up_r (by omega), y_up_r (by omega), y_up_r (by omega), y_up_r (by omega)]
    obtain ⟨g1, g2, g3, g4, g5⟩ := h2 i hi
    refine ⟨g1, g2, g3, g4, ?_⟩
    by_cases e : i = m
    · rw [e, y_dre, y_up_e ⟨rfl, rfl⟩]
      rfl
    · rw [y_drn S m 6 i (Or.inr e), y_up_n (Or.inr e)]
      exact g5
def y_odP (S : y_S) (m : Nat) : Bool := S 6 m == 0 && (y_rc (y_dr S m) 0 (S 0 4) (S 0 3)).isSome
theorem y_HR_odds_l (d : Nat) {S : y_S} (hok : y_okM S) (J : Nat → Nat → Int64) {part : Int32} {all : Nat} (ha : 0 < all ∧ all ≤ 14) : ∀ (j m c : Nat) (I : Nat → Nat → Int32), m + j = S 1 0 → c ≤ m → y_vM 1 S I → ∃ I', zL (d + 4) q_HR_odds 17 [(0, .ref 0), (1, .int part), (2, .int (nI all)), (3, .int (nI c)), (4, .int (nI m))] (xz_SH, I, J) = some (some (.long (lN (y_lo (c + y_ct (y_odP S) j m) all part))), (xz_SH, I', J)) ∧ ∀ q, q ≠ 59 → I' q = I q
  | 0, m, c, I, hm, hc, hM => by
    obtain ⟨k1, k2, k3, k4, k5, k6, k7, k8⟩ := id hok
    refine ⟨I, ?_, fun _ _ => rfl⟩
    have hL := y_HR_lowest (d + 2) (a := c) (c := all) (by omega) (by omega) ha.1 part (xz_SH, I, J)
    refine b_HR_odds_l17 _ _ _ _ _ _ _ _ ?_
    have e1 := hM.2.1
    simp (maxSteps := 1000000) (disch := omega) only [sh_is0, sh_gI0, sh_wI0, sh_wZ0, sh_gR0, sh_gR1, sh_gR2, sh_lI0, sh_lI1, sh_lI2, sh_sI0, sh_sI1, sh_sI2, sh_len0, sh_len1, sh_len2, sh_lZ0, sh_sZ0, sh_gJ0, sh_wJ0, sh_lR0, sh_lJ0, sh_sJ0, y_eo, y_eb, y_eI, y_eJ, y_eR, y_eV, y_in, nI_clamp, cond_true, y_eqI, y_ltI, y_leI, y_lit, nI_toInt, if_true, if_false, if_pos, if_neg, y_bIt, y_bIf, y_band, e1, nI_l, hL]
    rfl
  | j + 1, m, c, I, hm, hc, hM => by
    obtain ⟨k1, k2, k3, k4, k5, k6, k7, k8⟩ := id hok
    have hT := y_Me_isThere (d + 3) (Or.inl rfl) J hM hok (m := m) (by omega)
    have e1 := hM.2.1
    have ih := fun c I hc hM => y_HR_odds_l d hok J ha (part := part) j (m + 1) c I (by omega) hc hM
    show ∃ I', zL (d + 4) q_HR_odds 17 [(0, .ref 0), (1, .int part), (2, .int (nI all)), (3, .int (nI c)), (4, .int (nI m))] (xz_SH, I, J) = some (some (.long (lN (y_lo (c + ((if y_odP S m = true then 1 else 0) + y_ct (y_odP S) j (m + 1))) all part))), (xz_SH, I', J)) ∧ ∀ q, q ≠ 59 → I' q = I q
    cases e : (S 6 m == 0) with
    | false =>
      rw [e] at hT
      have ep : y_odP S m = false := by unfold y_odP; rw [e]; rfl
      rw [ep, if_neg (by simp), Nat.zero_add]
      obtain ⟨I', f1, f2⟩ := ih c I (by omega) hM
      refine ⟨I', ?_, f2⟩
      refine b_HR_odds_l17 _ _ _ _ _ _ _ _ ?_
      simp (maxSteps := 1000000) (disch := omega) only [sh_is0, sh_gI0, sh_wI0, sh_wZ0, sh_gR0, sh_gR1, sh_gR2, sh_lI0, sh_lI1, sh_lI2, sh_sI0, sh_sI1, sh_sI2, sh_len0, sh_len1, sh_len2, sh_lZ0, sh_sZ0, sh_gJ0, sh_wJ0, sh_lR0, sh_lJ0, sh_sJ0, y_eo, y_eb, y_eI, y_eJ, y_eR, y_eV, y_in, nI_clamp, cond_true, y_eqI, y_ltI, y_leI, y_lit, nI_toInt, if_true, if_false, if_pos, if_neg, y_bIt, y_bIf, y_band, e1, hT, y_1]
      exact f1
    | true =>
      rw [e] at hT
      obtain ⟨I1, f1, f2, f3⟩ := y_Re_fillWithout (d + 1) (Or.inl rfl) hok (y_dr_mis hok (m := m) (by omega)) (B := 0) (by decide) (by simp) k6 J hM
      have f1' : zC (d + 4) q_Re_fillWithout [.ref 58, .ref 1, .int (nI (S 0 4)), .int (0 : Int32), .int (nI m)] (xz_SH, I, J) = some (none, (xz_SH, I1, J)) := f1
      have hM1 : y_vM 1 S I1 := y_vM_of (fun q _ _ => f3 q (by omega)) hM
      have hO := y_Re_of (d + 3) J f2 (show S 0 3 < 6 by omega)
      have hl := (f2 (S 0 3) (by omega)).2
      cases e2 : (y_rc (y_dr S m) 0 (S 0 4) (S 0 3)).isSome with
      | false =>
        have ep : y_odP S m = false := by unfold y_odP; rw [e, e2]; rfl
        rw [ep, if_neg (by simp), Nat.zero_add]
        obtain ⟨I', g1, g2⟩ := ih c I1 (by omega) hM1
        refine ⟨I', ?_, fun q hq => (g2 q hq).trans (f3 q hq)⟩
        refine b_HR_odds_l17 _ _ _ _ _ _ _ _ ?_
        simp (maxSteps := 1000000) (disch := omega) only [sh_is0, sh_gI0, sh_wI0, sh_wZ0, sh_gR0, sh_gR1, sh_gR2, sh_lI0, sh_lI1, sh_lI2, sh_sI0, sh_sI1, sh_sI2, sh_len0, sh_len1, sh_len2, sh_lZ0, sh_sZ0, sh_gJ0, sh_wJ0, sh_lR0, sh_lJ0, sh_sJ0, y_eo, y_eb, y_eI, y_eJ, y_eR, y_eV, y_in, nI_clamp, cond_true, y_eqI, y_ltI, y_leI, y_lit, nI_toInt, if_true, if_false, if_pos, if_neg, y_bIt, y_bIf, y_band, e1, hT, hM.1.2.2.2.2, f1', hM1.1.2.2.2.1, hO, y_lt0o _ hl, e2, y_1, y_p0]
        exact g1
      | true =>
        have ep : y_odP S m = true := by unfold y_odP; rw [e, e2]; rfl
        rw [ep, if_pos rfl, ← Nat.add_assoc]
        obtain ⟨I', g1, g2⟩ := ih (c + 1) I1 (by omega) hM1
        refine ⟨I', ?_, fun q hq => (g2 q hq).trans (f3 q hq)⟩
        refine b_HR_odds_l17 _ _ _ _ _ _ _ _ ?_
        simp (maxSteps := 1000000) (disch := omega) only [sh_is0, sh_gI0, sh_wI0, sh_wZ0, sh_gR0, sh_gR1, sh_gR2, sh_lI0, sh_lI1, sh_lI2, sh_sI0, sh_sI1, sh_sI2, sh_len0, sh_len1, sh_len2, sh_lZ0, sh_sZ0, sh_gJ0, sh_wJ0, sh_lR0, sh_lJ0, sh_sJ0, y_eo, y_eb, y_eI, y_eJ, y_eR, y_eV, y_in, nI_clamp, cond_true, y_eqI, y_ltI, y_leI, y_lit, nI_toInt, if_true, if_false, if_pos, if_neg, y_bIt, y_bIf, y_band, e1, hT, hM.1.2.2.2.2, f1', hM1.1.2.2.2.1, hO, y_lt0o _ hl, e2, y_1, Bool.true_eq_false]
        exact g1
theorem y_Mo_odds_l (d : Nat) {S : y_S} (hok : y_okM S) {part : Int32} {all : Nat} (ha : 0 < all ∧ all ≤ 14) : ∀ (j m c : Nat) (I : Nat → Nat → Int32) (J : Nat → Nat → Int64), m + j = S 1 0 → c ≤ m → y_vR S I → ∃ I' J', zL (d + 12) q_Mo_odds 15 [(0, .ref 92), (1, .int part), (2, .int (nI all)), (3, .int (nI c)), (4, .int (nI m))] (xz_SH, I, J) = some (some (.long (lN (y_lo (c + y_ct (y_odP S) j m) all part))), (xz_SH, I', J')) ∧ y_ff I I' J J'
  | 0, m, c, I, J, hm, hc, hR => by
    obtain ⟨k1, k2, k3, k4, k5, k6, k7, k8⟩ := id hok
    refine ⟨I, J, ?_, y_ff_r I J⟩
    have hL := y_Mo_lowest (d + 11) (a := c) (c := all) (by omega) (by omega) ha.1 part (xz_SH, I, J)
    refine b_Mo_odds_l15 _ _ _ _ _ _ _ _ ?_
    simp (maxSteps := 1000000) (disch := omega) only [sh_is0, sh_gI0, sh_wI0, sh_wZ0, sh_gR0, sh_gR1, sh_gR2, sh_lI0, sh_lI1, sh_lI2, sh_sI0, sh_sI1, sh_sI2, sh_len0, sh_len1, sh_len2, sh_lZ0, sh_sZ0, sh_gJ0, sh_wJ0, sh_lR0, sh_lJ0, sh_sJ0, y_eo, y_eb, y_eI, y_eJ, y_eR, y_eV, y_in, nI_clamp, cond_true, y_eqI, y_ltI, y_leI, y_lit, nI_toInt, if_true, if_false, if_pos, if_neg, y_bIt, y_bIf, y_band, hR.2.1, nI_l, hL]
    rfl
  | j + 1, m, c, I, J, hm, hc, hR => by
    obtain ⟨k1, k2, k3, k4, k5, k6, k7, k8⟩ := id hok
    obtain ⟨g1, g2, g3, g4, g5⟩ := hR.2.2 m (by omega)
    obtain ⟨_, _, _, _, _, _, g7⟩ := k8 m (by omega)
    have ih := fun c I J hc hR => y_Mo_odds_l d hok ha (part := part) j (m + 1) c I J (by omega) hc hR
    show ∃ I' J', zL (d + 12) q_Mo_odds 15 [(0, .ref 92), (1, .int part), (2, .int (nI all)), (3, .int (nI c)), (4, .int (nI m))] (xz_SH, I, J) = some (some (.long (lN (y_lo (c + ((if y_odP S m = true then 1 else 0) + y_ct (y_odP S) j (m + 1))) all part))), (xz_SH, I', J')) ∧ y_ff I I' J J'
    by_cases e : S 6 m = 0
    · have e' : (S 6 m == 0) = true := by simpa using e
      obtain ⟨I1, J1, f1, f2⟩ := y_Mo_isThereOne d (y_dr_ok hok m) (B := 0) (by decide) J (y_dr_vR hR m)
      rw [y_drn S m 0 4 (by omega), y_drn S m 0 3 (by omega)] at f1
      have f1' : zC (d + 12) q_Mo_isThereOne [.ref 92, .int (0 : Int32)] (xz_SH, xz_up I 93 m 0, J) = some (some (.int (y_bI (y_rc (y_dr S m) 0 (S 0 4) (S 0 3)).isSome)), (xz_SH, I1, J1)) := f1
      have e93 : xz_up I1 93 m 1 93 = I 93 := by
        funext i
        by_cases z : i = m
        · rw [z, y_up_e ⟨rfl, rfl⟩, g5, e]
          rfl
        · rw [y_up_n (Or.inr z), f2.1 93 (by omega) (by omega) (by omega), y_up_n (Or.inr z)]
      have hff : y_ff I (xz_up I1 93 m 1) J J1 := by
        refine ⟨fun q h1 h2 h3 => ?_, fun i hi => ?_, fun q hq => f2.2.2 q hq⟩
        · by_cases z : q = 93
          · rw [z, e93]
          · rw [y_up_r z, f2.1 q h1 h2 h3, y_up_r z]
        · rw [y_up_n (by omega), f2.2.1 i hi, y_up_n (by omega)]
      have hR1 := y_vR_ff hff hR
      cases e2 : (y_rc (y_dr S m) 0 (S 0 4) (S 0 3)).isSome with
      | false =>
        rw [e2] at f1'
        have ep : y_odP S m = false := by unfold y_odP; rw [e', e2]; rfl
        rw [ep, if_neg (by simp), Nat.zero_add]
        obtain ⟨I', J', h1, h2⟩ := ih c _ J1 (by omega) hR1
        refine ⟨I', J', ?_, y_ff_t hff h2⟩
        refine b_Mo_odds_l15 _ _ _ _ _ _ _ _ ?_
        simp (maxSteps := 1000000) (disch := omega) only [sh_is0, sh_gI0, sh_wI0, sh_wZ0, sh_gR0, sh_gR1, sh_gR2, sh_lI0, sh_lI1, sh_lI2, sh_sI0, sh_sI1, sh_sI2, sh_len0, sh_len1, sh_len2, sh_lZ0, sh_sZ0, sh_gJ0, sh_wJ0, sh_lR0, sh_lJ0, sh_sJ0, y_eo, y_eb, y_eI, y_eJ, y_eR, y_eV, y_in, nI_clamp, cond_true, y_eqI, y_ltI, y_leI, y_lit, nI_toInt, if_true, if_false, if_pos, if_neg, y_bIt, y_bIf, y_band, hR.2.1, g5, e, y_an0, y_an1, f1', y_1]
        exact h1
      | true =>
        rw [e2] at f1'
        have ep : y_odP S m = true := by unfold y_odP; rw [e', e2]; rfl
        rw [ep, if_pos rfl, ← Nat.add_assoc]
        obtain ⟨I', J', h1, h2⟩ := ih (c + 1) _ J1 (by omega) hR1
        refine ⟨I', J', ?_, y_ff_t hff h2⟩
        refine b_Mo_odds_l15 _ _ _ _ _ _ _ _ ?_
        simp (maxSteps := 1000000) (disch := omega) only [sh_is0, sh_gI0, sh_wI0, sh_wZ0, sh_gR0, sh_gR1, sh_gR2, sh_lI0, sh_lI1, sh_lI2, sh_sI0, sh_sI1, sh_sI2, sh_len0, sh_len1, sh_len2, sh_lZ0, sh_sZ0, sh_gJ0, sh_wJ0, sh_lR0, sh_lJ0, sh_sJ0, y_eo, y_eb, y_eI, y_eJ, y_eR, y_eV, y_in, nI_clamp, cond_true, y_eqI, y_ltI, y_leI, y_lit, nI_toInt, if_true, if_false, if_pos, if_neg, y_bIt, y_bIf, y_band, hR.2.1, g5, e, y_an0, y_an1, f1', y_1]
        exact h1
    · have e' : (S 6 m == 0) = false := by simpa using e
      have ep : y_odP S m = false := by unfold y_odP; rw [e']; rfl
      have e1 : S 6 m = 1 := by omega
      rw [ep, if_neg (by simp), Nat.zero_add]
      obtain ⟨I', J', h1, h2⟩ := ih c I J (by omega) hR
      refine ⟨I', J', ?_, h2⟩
      refine b_Mo_odds_l15 _ _ _ _ _ _ _ _ ?_
      simp (maxSteps := 1000000) (disch := omega) only [sh_is0, sh_gI0, sh_wI0, sh_wZ0, sh_gR0, sh_gR1, sh_gR2, sh_lI0, sh_lI1, sh_lI2, sh_sI0, sh_sI1, sh_sI2, sh_len0, sh_len1, sh_len2, sh_lZ0, sh_sZ0, sh_gJ0, sh_wJ0, sh_lR0, sh_lJ0, sh_sJ0, y_eo, y_eb, y_eI, y_eJ, y_eR, y_eV, y_in, nI_clamp, cond_true, y_eqI, y_ltI, y_leI, y_lit, nI_toInt, if_true, if_false, if_pos, if_neg, y_bIt, y_bIf, y_band, hR.2.1, g5, e1, y_1]
      exact h1
theorem y_s_odds (x : Int32) : zSJ zR q_HR_odds q_Mo_odds [.int x] := by
  refine y_simJ fun S hok hox => ?_
  obtain ⟨k1, k2, k3, k4, k5, k6, k7, k8⟩ := id hok
  have hlf := y_lf_le S
  cases h : y_rg x 0 1 with
  | false =>
    refine ⟨-9223372036854775808, fun I J hZ => ⟨I, J, ?_, y_sm_r I J⟩, fun I J hZ => ⟨I, J, ?_, y_sm_r I J⟩⟩
    · refine b_HR_odds _ _ _ _ _ ?_
      simp (maxSteps := 1000000) (disch := omega) only [sh_is0, sh_gI0, sh_wI0, sh_wZ0, sh_gR0, sh_gR1, sh_gR2, sh_lI0, sh_lI1, sh_lI2, sh_sI0, sh_sI1, sh_sI2, sh_len0, sh_len1, sh_len2, sh_lZ0, sh_sZ0, sh_gJ0, sh_wJ0, sh_lR0, sh_lJ0, sh_sJ0, y_eo, y_eb, y_eI, y_eJ, y_eR, y_eV, y_in, nI_clamp, cond_true, y_eqI, y_ltI, y_leI, y_lit, nI_toInt, if_true, if_false, if_pos, if_neg, y_bIt, y_bIf, y_band, y_Me_left _ (Or.inl rfl) J hZ.2.1.1 hok, y_HR_isPart, h]
    · refine b_Mo_odds _ _ _ _ _ ?_
      simp (maxSteps := 1000000) (disch := omega) only [sh_is0, sh_gI0, sh_wI0, sh_wZ0, sh_gR0, sh_gR1, sh_gR2, sh_lI0, sh_lI1, sh_lI2, sh_sI0, sh_sI1, sh_sI2, sh_len0, sh_len1, sh_len2, sh_lZ0, sh_sZ0, sh_gJ0, sh_wJ0, sh_lR0, sh_lJ0, sh_sJ0, y_eo, y_eb, y_eI, y_eJ, y_eR, y_eV, y_in, nI_clamp, cond_true, y_eqI, y_ltI, y_leI, y_lit, nI_toInt, if_true, if_false, if_pos, if_neg, y_bIt, y_bIf, y_band, y_Mo_left _ J hZ.2.2.1.1 hok, y_Mo_isPart, h]
  | true =>
    by_cases h0 : y_lf S = 0
    · refine ⟨-9223372036854775808, fun I J hZ => ⟨I, J, ?_, y_sm_r I J⟩, fun I J hZ => ⟨I, J, ?_, y_sm_r I J⟩⟩
      · refine b_HR_odds _ _ _ _ _ ?_
        simp (maxSteps := 1000000) (disch := omega) only [sh_is0, sh_gI0, sh_wI0, sh_wZ0, sh_gR0, sh_gR1, sh_gR2, sh_lI0, sh_lI1, sh_lI2, sh_sI0, sh_sI1, sh_sI2, sh_len0, sh_len1, sh_len2, sh_lZ0, sh_sZ0, sh_gJ0, sh_wJ0, sh_lR0, sh_lJ0, sh_sJ0, y_eo, y_eb, y_eI, y_eJ, y_eR, y_eV, y_in, nI_clamp, cond_true, y_eqI, y_ltI, y_leI, y_lit, nI_toInt, if_true, if_false, if_pos, if_neg, y_bIt, y_bIf, y_band, y_Me_left _ (Or.inl rfl) J hZ.2.1.1 hok, y_HR_isPart, h, h0]
      · refine b_Mo_odds _ _ _ _ _ ?_
        simp (maxSteps := 1000000) (disch := omega) only [sh_is0, sh_gI0, sh_wI0, sh_wZ0, sh_gR0, sh_gR1, sh_gR2, sh_lI0, sh_lI1, sh_lI2, sh_sI0, sh_sI1, sh_sI2, sh_len0, sh_len1, sh_len2, sh_lZ0, sh_sZ0, sh_gJ0, sh_wJ0, sh_lR0, sh_lJ0, sh_sJ0, y_eo, y_eb, y_eI, y_eJ, y_eR, y_eV, y_in, nI_clamp, cond_true, y_eqI, y_ltI, y_leI, y_lit, nI_toInt, if_true, if_false, if_pos, if_neg, y_bIt, y_bIf, y_band, y_Mo_left _ J hZ.2.2.1.1 hok, y_Mo_isPart, h, h0]
    · refine ⟨lN (y_lo (0 + y_ct (y_odP S) (S 1 0) 0) (y_lf S) x), fun I J hZ => ?_, fun I J hZ => ?_⟩
      · obtain ⟨I', f1, f2⟩ := y_HR_odds_l 55 hok J (part := x) (all := y_lf S) (by omega) (S 1 0) 0 0 I (by omega) (by omega) hZ.2.1.1
        refine ⟨I', J, ?_, y_sm_59 J f2⟩
        refine b_HR_odds _ _ _ _ _ ?_
        simp (maxSteps := 1000000) (disch := omega) only [sh_is0, sh_gI0, sh_wI0, sh_wZ0, sh_gR0, sh_gR1, sh_gR2, sh_lI0, sh_lI1, sh_lI2, sh_sI0, sh_sI1, sh_sI2, sh_len0, sh_len1, sh_len2, sh_lZ0, sh_sZ0, sh_gJ0, sh_wJ0, sh_lR0, sh_lJ0, sh_sJ0, y_eo, y_eb, y_eI, y_eJ, y_eR, y_eV, y_in, nI_clamp, cond_true, y_eqI, y_ltI, y_leI, y_lit, nI_toInt, if_true, if_false, if_pos, if_neg, y_bIt, y_bIf, y_band, y_Me_left _ (Or.inl rfl) J hZ.2.1.1 hok, y_HR_isPart, h]
        exact f1
      · obtain ⟨I', J', f1, f2⟩ := y_Mo_odds_l 47 hok (part := x) (all := y_lf S) (by omega) (S 1 0) 0 0 I J (by omega) (by omega) hZ.2.2.1.1
        refine ⟨I', J', ?_, y_ff_sm f2⟩
        refine b_Mo_odds _ _ _ _ _ ?_
        simp (maxSteps := 1000000) (disch := omega) only [sh_is0, sh_gI0, sh_wI0, sh_wZ0, sh_gR0, sh_gR1, sh_gR2, sh_lI0, sh_lI1, sh_lI2, sh_sI0, sh_sI1, sh_sI2, sh_len0, sh_len1, sh_len2, sh_lZ0, sh_sZ0, sh_gJ0, sh_wJ0, sh_lR0, sh_lJ0, sh_sJ0, y_eo, y_eb, y_eI, y_eJ, y_eR, y_eV, y_in, nI_clamp, cond_true, y_eqI, y_ltI, y_leI, y_lit, nI_toInt, if_true, if_false, if_pos, if_neg, y_bIt, y_bIf, y_band, y_Mo_left _ J hZ.2.2.1.1 hok, y_Mo_isPart, h]
        exact f1
/-! mean -/
def y_tg (a : y_A) : Nat → Nat → Nat
  | 0, _ => 0
  | j + 1, p => (a p).getD 0 + y_tg a j (p + 1)
theorem y_ct_pos {P : Nat → Bool} {i : Nat} (hi : P i = true) : ∀ j m, m ≤ i → i < m + j → 0 < y_ct P j m
  | 0, m, h1, h2 => by omega
  | j + 1, m, h1, h2 => by
    unfold y_ct
    by_cases e : m = i
    · subst e
      rw [if_pos hi]
      omega
    · have := y_ct_pos hi j (m + 1) (by omega) (by omega)
      omega
theorem y_rc_from (S : y_S) (st : Nat) : (y_rc S 0 st (S 0 2)).isSome = true := by
  unfold y_rc
  have e : y_wl S (S 0 2) 0 5 (S 0 2) st (1 <<< S 0 2) = [[]] := by
    show (if S 0 2 = S 0 2 then [[]] else _) = _
    rw [if_pos rfl]
  rw [e]
  rfl
theorem y_HR_mean_l (d : Nat) {S : y_S} (hok : y_okM S) {a : y_A} {I : Nat → Nat → Int32} (J : Nat → Nat → Int64) (h0 : I 1 0 = nI (S 0 0)) (hA : y_vA a I) (part : Int32) : ∀ (j p s c : Nat), p + j = S 0 0 → s ≤ 99 * p → c ≤ p → 0 < c + y_ct (fun p => (a p).isSome) j p → zL (d + 2) q_HR_mean 20 [(0, .ref 0), (1, .int part), (2, .int (nI s)), (3, .int (nI c)), (4, .int (nI p))] (xz_SH, I, J) = some (some (.long (lN (y_lo (s + y_tg a j p) (c + y_ct (fun p => (a p).isSome) j p) part))), (xz_SH, I, J))
  | 0, p, s, c, hp, hs, hc, hpos => by
    obtain ⟨k1, k2, k3, k4, k5, k6, k7, k8⟩ := id hok
    have hL := y_HR_lowest d (a := s) (c := c) (by omega) (by omega) hpos part (xz_SH, I, J)
    refine b_HR_mean_l20 _ _ _ _ _ _ _ _ ?_
    simp (maxSteps := 1000000) (disch := omega) only [sh_is0, sh_gI0, sh_wI0, sh_wZ0, sh_gR0, sh_gR1, sh_gR2, sh_lI0, sh_lI1, sh_lI2, sh_sI0, sh_sI1, sh_sI2, sh_len0, sh_len1, sh_len2, sh_lZ0, sh_sZ0, sh_gJ0, sh_wJ0, sh_lR0, sh_lJ0, sh_sJ0, y_eo, y_eb, y_eI, y_eJ, y_eR, y_eV, y_in, nI_clamp, cond_true, y_eqI, y_ltI, y_leI, y_lit, nI_toInt, if_true, if_false, if_pos, if_neg, y_bIt, y_bIf, y_band, h0, nI_l, hL]
    rfl
  | j + 1, p, s, c, hp, hs, hc, hpos => by
    obtain ⟨k1, k2, k3, k4, k5, k6, k7, k8⟩ := id hok
    have hl := (hA p (by omega)).2
    have hO := y_Re_of (d + 1) J hA (show p < 6 by omega)
    have ih := fun s c h1 h2 h3 => y_HR_mean_l d hok J h0 hA part j (p + 1) s c (by omega) h1 h2 h3
    refine b_HR_mean_l20 _ _ _ _ _ _ _ _ ?_
    have hpos' : 0 < c + ((if (a p).isSome = true then 1 else 0) + y_ct (fun p => (a p).isSome) j (p + 1)) := hpos
    show _ = some (some (Value.long (lN (y_lo (s + ((a p).getD 0 + y_tg a j (p + 1))) (c + ((if (a p).isSome = true then 1 else 0) + y_ct (fun p => (a p).isSome) j (p + 1))) part))), ((xz_SH, I, J) : xz_M))
    cases e : a p with
    | none =>
      rw [e] at hO hpos'
      have e2 : (none : Option Nat).isSome = false := rfl
      rw [e2, if_neg (by simp)] at hpos' ⊢
      rw [show (none : Option Nat).getD 0 = 0 from rfl, Nat.zero_add, Nat.zero_add]
      rw [Nat.zero_add] at hpos'
      rw [← ih s c (by omega) (by omega) hpos']
      simp (maxSteps := 1000000) (disch := omega) only [sh_is0, sh_gI0, sh_wI0, sh_wZ0, sh_gR0, sh_gR1, sh_gR2, sh_lI0, sh_lI1, sh_lI2, sh_sI0, sh_sI1, sh_sI2, sh_len0, sh_len1, sh_len2, sh_lZ0, sh_sZ0, sh_gJ0, sh_wJ0, sh_lR0, sh_lJ0, sh_sJ0, y_eo, y_eb, y_eI, y_eJ, y_eR, y_eV, y_in, nI_clamp, cond_true, y_eqI, y_ltI, y_leI, y_lit, nI_toInt, if_true, if_false, if_pos, if_neg, y_bIt, y_bIf, y_band, h0, hO, y_o5n, y_1]
    | some t =>
      have ht := hl t e
      rw [e] at hO hpos'
      have e2 : (some t : Option Nat).isSome = true := rfl
      rw [e2, if_pos rfl] at hpos' ⊢
      rw [show (some t : Option Nat).getD 0 = t from rfl, ← Nat.add_assoc, ← Nat.add_assoc]
      rw [← Nat.add_assoc] at hpos'
      rw [← ih (s + t) (c + 1) (by omega) (by omega) hpos']
      simp (maxSteps := 1000000) (disch := omega) only [sh_is0, sh_gI0, sh_wI0, sh_wZ0, sh_gR0, sh_gR1, sh_gR2, sh_lI0, sh_lI1, sh_lI2, sh_sI0, sh_sI1, sh_sI2, sh_len0, sh_len1, sh_len2, sh_lZ0, sh_sZ0, sh_gJ0, sh_wJ0, sh_lR0, sh_lJ0, sh_sJ0, y_eo, y_eb, y_eI, y_eJ, y_eR, y_eV, y_in, nI_clamp, cond_true, y_eqI, y_ltI, y_leI, y_lit, nI_toInt, if_true, if_false, if_pos, if_neg, y_bIt, y_bIf, y_band, h0, hO, y_o5s, y_1, nI_add]
theorem y_Mo_mean_l (d : Nat) {S : y_S} (hok : y_okM S) {a : y_A} {I : Nat → Nat → Int32} (J : Nat → Nat → Int64) (h0 : I 92 0 = nI (S 0 0)) (hA : ∀ p, p < S 0 0 → I 110 p = y_o5 (a p) ∧ ∀ t, a p = some t → t ≤ 99) (part : Int32) : ∀ (j p s c : Nat), p + j = S 0 0 → s ≤ 99 * p → c ≤ p → 0 < c + y_ct (fun p => (a p).isSome) j p → zL (d + 1) q_Mo_mean 14 [(0, .ref 92), (1, .int part), (2, .int (nI s)), (3, .int (nI c)), (4, .int (nI p))] (xz_SH, I, J) = some (some (.long (lN (y_lo (s + y_tg a j p) (c + y_ct (fun p => (a p).isSome) j p) part))), (xz_SH, I, J))
  | 0, p, s, c, hp, hs, hc, hpos => by
    obtain ⟨k1, k2, k3, k4, k5, k6, k7, k8⟩ := id hok
    have hL := y_Mo_lowest d (a := s) (c := c) (by omega) (by omega) hpos part (xz_SH, I, J)
    refine b_Mo_mean_l14 _ _ _ _ _ _ _ _ ?_
    simp (maxSteps := 1000000) (disch := omega) only [sh_is0, sh_gI0, sh_wI0, sh_wZ0, sh_gR0, sh_gR1, sh_gR2, sh_lI0, sh_lI1, sh_lI2, sh_sI0, sh_sI1, sh_sI2, sh_len0, sh_len1, sh_len2, sh_lZ0, sh_sZ0, sh_gJ0, sh_wJ0, sh_lR0, sh_lJ0, sh_sJ0, y_eo, y_eb, y_eI, y_eJ, y_eR, y_eV, y_in, nI_clamp, cond_true, y_eqI, y_ltI, y_leI, y_lit, nI_toInt, if_true, if_false, if_pos, if_neg, y_bIt, y_bIf, y_band, h0, nI_l, hL]
    rfl
  | j + 1, p, s, c, hp, hs, hc, hpos => by
    obtain ⟨k1, k2, k3, k4, k5, k6, k7, k8⟩ := id hok
    obtain ⟨h1, hl⟩ := hA p (by omega)
    have ih := fun s c h1 h2 h3 => y_Mo_mean_l d hok J h0 hA part j (p + 1) s c (by omega) h1 h2 h3
    refine b_Mo_mean_l14 _ _ _ _ _ _ _ _ ?_
    have hpos' : 0 < c + ((if (a p).isSome = true then 1 else 0) + y_ct (fun p => (a p).isSome) j (p + 1)) := hpos
    show _ = some (some (Value.long (lN (y_lo (s + ((a p).getD 0 + y_tg a j (p + 1))) (c + ((if (a p).isSome = true then 1 else 0) + y_ct (fun p => (a p).isSome) j (p + 1))) part))), ((xz_SH, I, J) : xz_M))
    cases e : a p with
    | none =>
      rw [e] at h1 hpos'
      have e2 : (none : Option Nat).isSome = false := rfl
      rw [e2, if_neg (by simp)] at hpos' ⊢
      rw [show (none : Option Nat).getD 0 = 0 from rfl, Nat.zero_add, Nat.zero_add]
      rw [Nat.zero_add] at hpos'
      rw [← ih s c (by omega) (by omega) hpos']
      simp (maxSteps := 1000000) (disch := omega) only [sh_is0, sh_gI0, sh_wI0, sh_wZ0, sh_gR0, sh_gR1, sh_gR2, sh_lI0, sh_lI1, sh_lI2, sh_sI0, sh_sI1, sh_sI2, sh_len0, sh_len1, sh_len2, sh_lZ0, sh_sZ0, sh_gJ0, sh_wJ0, sh_lR0, sh_lJ0, sh_sJ0, y_eo, y_eb, y_eI, y_eJ, y_eR, y_eV, y_in, nI_clamp, cond_true, y_eqI, y_ltI, y_leI, y_lit, nI_toInt, if_true, if_false, if_pos, if_neg, y_bIt, y_bIf, y_band, h0, h1, y_o5n, y_1]
    | some t =>
      have ht := hl t e
      rw [e] at h1 hpos'
      have e2 : (some t : Option Nat).isSome = true := rfl
      rw [e2, if_pos rfl] at hpos' ⊢
      rw [show (some t : Option Nat).getD 0 = t from rfl, ← Nat.add_assoc, ← Nat.add_assoc]
      rw [← Nat.add_assoc] at hpos'
      rw [← ih (s + t) (c + 1) (by omega) (by omega) hpos']
      simp (maxSteps := 1000000) (disch := omega) only [sh_is0, sh_gI0, sh_wI0, sh_wZ0, sh_gR0, sh_gR1, sh_gR2, sh_lI0, sh_lI1, sh_lI2, sh_sI0, sh_sI1, sh_sI2, sh_len0, sh_len1, sh_len2, sh_lZ0, sh_sZ0, sh_gJ0, sh_wJ0, sh_lR0, sh_lJ0, sh_sJ0, y_eo, y_eb, y_eI, y_eJ, y_eR, y_eV, y_in, nI_clamp, cond_true, y_eqI, y_ltI, y_leI, y_lit, nI_toInt, if_true, if_false, if_pos, if_neg, y_bIt, y_bIf, y_band, h0, h1, y_o5s, y_1, nI_add]
theorem y_s_mean (x : Int32) : zSJ zR q_HR_mean q_Mo_mean [.int x] := by
  refine y_simJ fun S hok hox => ?_
  obtain ⟨k1, k2, k3, k4, k5, k6, k7, k8⟩ := id hok
  cases h : y_rg x 0 1 with
  | false =>
    refine ⟨-9223372036854775808, fun I J hZ => ⟨I, J, ?_, y_sm_r I J⟩, fun I J hZ => ⟨I, J, ?_, y_sm_r I J⟩⟩
    · refine b_HR_mean _ _ _ _ _ ?_
      simp (maxSteps := 1000000) (disch := omega) only [sh_is0, sh_gI0, sh_wI0, sh_wZ0, sh_gR0, sh_gR1, sh_gR2, sh_lI0, sh_lI1, sh_lI2, sh_sI0, sh_sI1, sh_sI2, sh_len0, sh_len1, sh_len2, sh_lZ0, sh_sZ0, sh_gJ0, sh_wJ0, sh_lR0, sh_lJ0, sh_sJ0, y_eo, y_eb, y_eI, y_eJ, y_eR, y_eV, y_in, nI_clamp, cond_true, y_eqI, y_ltI, y_leI, y_lit, nI_toInt, if_true, if_false, if_pos, if_neg, y_bIt, y_bIf, y_band, y_HR_isPart, h]
    · refine b_Mo_mean _ _ _ _ _ ?_
      simp (maxSteps := 1000000) (disch := omega) only [sh_is0, sh_gI0, sh_wI0, sh_wZ0, sh_gR0, sh_gR1, sh_gR2, sh_lI0, sh_lI1, sh_lI2, sh_sI0, sh_sI1, sh_sI2, sh_len0, sh_len1, sh_len2, sh_lZ0, sh_sZ0, sh_gJ0, sh_wJ0, sh_lR0, sh_lJ0, sh_sJ0, y_eo, y_eb, y_eI, y_eJ, y_eR, y_eV, y_in, nI_clamp, cond_true, y_eqI, y_ltI, y_leI, y_lit, nI_toInt, if_true, if_false, if_pos, if_neg, y_bIt, y_bIf, y_band, y_Mo_isPart, h]
  | true =>
    have hpos : 0 < 0 + y_ct (fun p => (y_rc S 0 (S 0 4) p).isSome) (S 0 0) 0 := by
      rw [Nat.zero_add]
      exact y_ct_pos (P := fun p => (y_rc S 0 (S 0 4) p).isSome) (y_rc_from S (S 0 4)) (S 0 0) 0 (by omega) (by omega)
    refine ⟨lN (y_lo (0 + y_tg (y_rc S 0 (S 0 4)) (S 0 0) 0) (0 + y_ct (fun p => (y_rc S 0 (S 0 4) p).isSome) (S 0 0) 0) x), fun I J hZ => ?_, fun I J hZ => ?_⟩
    · obtain ⟨I', f1, f2, f3⟩ := y_Re_fill 55 (Or.inl rfl) hok k6 J hZ.2.1.1
      refine ⟨I', J, ?_, y_sm_59 J f3⟩
      refine b_HR_mean _ _ _ _ _ ?_
      simp (maxSteps := 1000000) (disch := omega) only [sh_is0, sh_gI0, sh_wI0, sh_wZ0, sh_gR0, sh_gR1, sh_gR2, sh_lI0, sh_lI1, sh_lI2, sh_sI0, sh_sI1, sh_sI2, sh_len0, sh_len1, sh_len2, sh_lZ0, sh_sZ0, sh_gJ0, sh_wJ0, sh_lR0, sh_lJ0, sh_sJ0, y_eo, y_eb, y_eI, y_eJ, y_eR, y_eV, y_in, nI_clamp, cond_true, y_eqI, y_ltI, y_leI, y_lit, nI_toInt, if_true, if_false, if_pos, if_neg, y_bIt, y_bIf, y_band, y_HR_isPart, h, hZ.2.1.1.1.2.2.2.2, f1]
      exact y_HR_mean_l 57 hok J (by rw [f3 1 (by omega)]; exact hZ.2.1.1.1.1) f2 x (S 0 0) 0 0 0 (by omega) (by omega) (by omega) hpos
    · obtain ⟨I', J', f1, f2, f3⟩ := y_Mo_tell 46 hok J hZ.2.2.1.1
      refine ⟨I', J', ?_, y_tf_sm f2⟩
      refine b_Mo_mean _ _ _ _ _ ?_
      simp (maxSteps := 1000000) (disch := omega) only [sh_is0, sh_gI0, sh_wI0, sh_wZ0, sh_gR0, sh_gR1, sh_gR2, sh_lI0, sh_lI1, sh_lI2, sh_sI0, sh_sI1, sh_sI2, sh_len0, sh_len1, sh_len2, sh_lZ0, sh_sZ0, sh_gJ0, sh_wJ0, sh_lR0, sh_lJ0, sh_sJ0, y_eo, y_eb, y_eI, y_eJ, y_eR, y_eV, y_in, nI_clamp, cond_true, y_eqI, y_ltI, y_leI, y_lit, nI_toInt, if_true, if_false, if_pos, if_neg, y_bIt, y_bIf, y_band, y_Mo_isPart, h, f1]
      exact y_Mo_mean_l 58 hok J' (y_vR_tf f2 hZ.2.2.1.1).1.1 (fun p hp => ⟨f3 p hp, fun t ht => y_rc_le hok k6 ht⟩) x (S 0 0) 0 0 0 (by omega) (by omega) (by omega) hpos
