/-! FITS, LOOKED -/
def y_sn (S : y_S) (a : y_A) (r : Nat) : Bool := (match a (S 8 r) with
  | none => false
  | some t => decide (t ≤ S 9 r)) == (S 10 r == 1)
def y_fa (P : Nat → Bool) : Nat → Nat → Bool
  | 0, _ => true
  | j + 1, m => if P m = true then y_fa P j (m + 1) else false
theorem y_HR_seen_l (d : Nat) {S : y_S} (hok : y_okM S) (hox : y_okX S) {a : y_A} {I : Nat → Nat → Int32} (J : Nat → Nat → Int64) (hX : y_vX 1 S I) (hA : y_vA a I) : ∀ (j r : Nat), r + j = S 7 0 → zL (d + 1) q_HR_isAsSeen 9 [(0, .ref 0), (2, .int (nI r))] (xz_SH, I, J) = some (some (.int (y_bI (y_fa (y_sn S a) j r))), (xz_SH, I, J))
  | 0, r, hr => by
    have e0 := hX.1.1
    have e6 := hox.1.1
    refine b_HR_isAsSeen_l9 _ _ _ _ _ ?_
    simp (maxSteps := 1000000) (disch := omega) only [sh_is0, sh_gI0, sh_wI0, sh_wZ0, sh_gR0, sh_gR1, sh_gR2, sh_lI0, sh_lI1, sh_lI2, sh_sI0, sh_sI1, sh_sI2, sh_len0, sh_len1, sh_len2, sh_lZ0, sh_sZ0, sh_gJ0, sh_wJ0, sh_lR0, sh_lJ0, sh_sJ0, y_eo, y_eb, y_eI, y_eJ, y_eR, y_eV, y_in, nI_clamp, cond_true, y_eqI, y_ltI, y_leI, y_lit, nI_toInt, if_true, if_false, if_pos, if_neg, y_bIt, y_bIf, y_band, e0]
    rfl
  | j + 1, r, hr => by
    have ih := y_HR_seen_l d hok hox J hX hA j (r + 1) (by omega)
    have e0 := hX.1.1
    have e6 := hox.1.1
    obtain ⟨k1, k2, k3, k4, k5, k6, k7, k8⟩ := id hok
    obtain ⟨r1, r2, r3⟩ := hX.1.2 r (by omega)
    obtain ⟨q1, q2, q3⟩ := hox.1.2 r (by omega)
    obtain ⟨a1, a2⟩ := hA (S 8 r) (by omega)
    have hO := y_Re_of d J hA (show S 8 r < 6 by omega)
    refine b_HR_isAsSeen_l9 _ _ _ _ _ ?_
    show _ = some (some (Value.int (y_bI (if y_sn S a r = true then y_fa (y_sn S a) j (r + 1) else false))), ((xz_SH, I, J) : xz_M))
    unfold y_sn
    cases e : a (S 8 r) with
    | none =>
      rw [e] at hO
      by_cases f : S 10 r = 1
      · have f' : (false == (S 10 r == 1)) = false := by rw [f]; rfl
        dsimp only
        rw [f']
        simp (maxSteps := 1000000) (disch := omega) only [sh_is0, sh_gI0, sh_wI0, sh_wZ0, sh_gR0, sh_gR1, sh_gR2, sh_lI0, sh_lI1, sh_lI2, sh_sI0, sh_sI1, sh_sI2, sh_len0, sh_len1, sh_len2, sh_lZ0, sh_sZ0, sh_gJ0, sh_wJ0, sh_lR0, sh_lJ0, sh_sJ0, y_eo, y_eb, y_eI, y_eJ, y_eR, y_eV, y_in, nI_clamp, cond_true, y_eqI, y_ltI, y_leI, y_lit, nI_toInt, if_true, if_false, if_pos, if_neg, y_bIt, y_bIf, y_band, e0, r1, r3, hO, y_o5n, f, Bool.false_eq_true]
      · have f0 : S 10 r = 0 := by omega
        have f' : (false == (S 10 r == 1)) = true := by rw [f0]; rfl
        dsimp only
        rw [f']
        simp (maxSteps := 1000000) (disch := omega) only [sh_is0, sh_gI0, sh_wI0, sh_wZ0, sh_gR0, sh_gR1, sh_gR2, sh_lI0, sh_lI1, sh_lI2, sh_sI0, sh_sI1, sh_sI2, sh_len0, sh_len1, sh_len2, sh_lZ0, sh_sZ0, sh_gJ0, sh_wJ0, sh_lR0, sh_lJ0, sh_sJ0, y_eo, y_eb, y_eI, y_eJ, y_eR, y_eV, y_in, nI_clamp, cond_true, y_eqI, y_ltI, y_leI, y_lit, nI_toInt, if_true, if_false, if_pos, if_neg, y_bIt, y_bIf, y_band, e0, r1, r3, hO, y_o5n, f0, y_1]
        exact ih
    | some t =>
      have ht := a2 t e
      rw [e] at hO
      dsimp only
      by_cases z : t ≤ S 9 r
      · by_cases f : S 10 r = 1
        · have f' : (decide (t ≤ S 9 r) == (S 10 r == 1)) = true := by rw [f, decide_eq_true z]; rfl
          rw [f']
          simp (maxSteps := 1000000) (disch := omega) only [sh_is0, sh_gI0, sh_wI0, sh_wZ0, sh_gR0, sh_gR1, sh_gR2, sh_lI0, sh_lI1, sh_lI2, sh_sI0, sh_sI1, sh_sI2, sh_len0, sh_len1, sh_len2, sh_lZ0, sh_sZ0, sh_gJ0, sh_wJ0, sh_lR0, sh_lJ0, sh_sJ0, y_eo, y_eb, y_eI, y_eJ, y_eR, y_eV, y_in, nI_clamp, cond_true, y_eqI, y_ltI, y_leI, y_lit, nI_toInt, if_true, if_false, if_pos, if_neg, y_bIt, y_bIf, y_band, e0, r1, r2, r3, hO, y_o5s, f, y_1]
          exact ih
        · have f0 : S 10 r = 0 := by omega
          have f' : (decide (t ≤ S 9 r) == (S 10 r == 1)) = false := by rw [f0, decide_eq_true z]; rfl
          rw [f']
          simp (maxSteps := 1000000) (disch := omega) only [sh_is0, sh_gI0, sh_wI0, sh_wZ0, sh_gR0, sh_gR1, sh_gR2, sh_lI0, sh_lI1, sh_lI2, sh_sI0, sh_sI1, sh_sI2, sh_len0, sh_len1, sh_len2, sh_lZ0, sh_sZ0, sh_gJ0, sh_wJ0, sh_lR0, sh_lJ0, sh_sJ0, y_eo, y_eb, y_eI, y_eJ, y_eR, y_eV, y_in, nI_clamp, cond_true, y_eqI, y_ltI, y_leI, y_lit, nI_toInt, if_true, if_false, if_pos, if_neg, y_bIt, y_bIf, y_band, e0, r1, r2, r3, hO, y_o5s, f0, Bool.false_eq_true]
      · by_cases f : S 10 r = 1
        · have f' : (decide (t ≤ S 9 r) == (S 10 r == 1)) = false := by rw [f, decide_eq_false z]; rfl
          rw [f']
          simp (maxSteps := 1000000) (disch := omega) only [sh_is0, sh_gI0, sh_wI0, sh_wZ0, sh_gR0, sh_gR1, sh_gR2, sh_lI0, sh_lI1, sh_lI2, sh_sI0, sh_sI1, sh_sI2, sh_len0, sh_len1, sh_len2, sh_lZ0, sh_sZ0, sh_gJ0, sh_wJ0, sh_lR0, sh_lJ0, sh_sJ0, y_eo, y_eb, y_eI, y_eJ, y_eR, y_eV, y_in, nI_clamp, cond_true, y_eqI, y_ltI, y_leI, y_lit, nI_toInt, if_true, if_false, if_pos, if_neg, y_bIt, y_bIf, y_band, e0, r1, r2, r3, hO, y_o5s, f, Bool.false_eq_true]
        · have f0 : S 10 r = 0 := by omega
          have f' : (decide (t ≤ S 9 r) == (S 10 r == 1)) = true := by rw [f0, decide_eq_false z]; rfl
          rw [f']
          simp (maxSteps := 1000000) (disch := omega) only [sh_is0, sh_gI0, sh_wI0, sh_wZ0, sh_gR0, sh_gR1, sh_gR2, sh_lI0, sh_lI1, sh_lI2, sh_sI0, sh_sI1, sh_sI2, sh_len0, sh_len1, sh_len2, sh_lZ0, sh_sZ0, sh_gJ0, sh_wJ0, sh_lR0, sh_lJ0, sh_sJ0, y_eo, y_eb, y_eI, y_eJ, y_eR, y_eV, y_in, nI_clamp, cond_true, y_eqI, y_ltI, y_leI, y_lit, nI_toInt, if_true, if_false, if_pos, if_neg, y_bIt, y_bIf, y_band, e0, r1, r2, r3, hO, y_o5s, f0, y_1]
          exact ih
theorem y_HR_seen (d : Nat) {S : y_S} (hok : y_okM S) (hox : y_okX S) {I : Nat → Nat → Int32} (J : Nat → Nat → Int64) (hM : y_vM 1 S I) (hX : y_vX 1 S I) {t : Nat} (ht : t ≤ 99) : ∃ I', zC (d + 5) q_HR_isAsSeen [.ref 0, .int (nI t)] (xz_SH, I, J) = some (some (.int (y_bI (y_fa (y_sn S (y_rc S 0 t)) (S 7 0) 0))), (xz_SH, I', J)) ∧ ∀ q, q ≠ 59 → I' q = I q := by
  obtain ⟨I', f1, f2, f3⟩ := y_Re_fill d (Or.inl rfl) hok ht J hM
  refine ⟨I', ?_, f3⟩
  refine b_HR_isAsSeen _ _ _ _ _ ?_
  simp (maxSteps := 1000000) (disch := omega) only [sh_is0, sh_gI0, sh_wI0, sh_wZ0, sh_gR0, sh_gR1, sh_gR2, sh_lI0, sh_lI1, sh_lI2, sh_sI0, sh_sI1, sh_sI2, sh_len0, sh_len1, sh_len2, sh_lZ0, sh_sZ0, sh_gJ0, sh_wJ0, sh_lR0, sh_lJ0, sh_sJ0, y_eo, y_eb, y_eI, y_eJ, y_eR, y_eV, y_in, nI_clamp, cond_true, y_eqI, y_ltI, y_leI, y_lit, nI_toInt, if_true, if_false, if_pos, if_neg, y_bIt, y_bIf, y_band, f1]
  exact y_HR_seen_l (d + 3) hok hox J (y_vX_of (fun q _ _ => f3 q (by omega)) hX) f2 (S 7 0) 0 (by omega)
theorem y_Mo_seen_l (d : Nat) {S T : y_S} (hok : y_okM S) (hokT : y_okM T) (hox : y_okX S) : ∀ (j r : Nat) (I : Nat → Nat → Int32) (J : Nat → Nat → Int64), r + j = S 7 0 → y_vR T I → y_vY S I → ∃ I' J', zL (d + 12) q_Mo_isAsSeen 3 [(0, .ref 92), (1, .int (nI r))] (xz_SH, I, J) = some (some (.int (y_bI (y_fa (y_sn S (y_rc T 0 (T 0 4))) j r))), (xz_SH, I', J')) ∧ y_ff I I' J J'
  | 0, r, I, J, hr, hR, hY => by
    have e0 := hY.1.1
    have e6 := hox.1.1
    refine ⟨I, J, ?_, y_ff_r I J⟩
    refine b_Mo_isAsSeen_l3 _ _ _ _ _ ?_
    simp (maxSteps := 1000000) (disch := omega) only [sh_is0, sh_gI0, sh_wI0, sh_wZ0, sh_gR0, sh_gR1, sh_gR2, sh_lI0, sh_lI1, sh_lI2, sh_sI0, sh_sI1, sh_sI2, sh_len0, sh_len1, sh_len2, sh_lZ0, sh_sZ0, sh_gJ0, sh_wJ0, sh_lR0, sh_lJ0, sh_sJ0, y_eo, y_eb, y_eI, y_eJ, y_eR, y_eV, y_in, nI_clamp, cond_true, y_eqI, y_ltI, y_leI, y_lit, nI_toInt, if_true, if_false, if_pos, if_neg, y_bIt, y_bIf, y_band, e0]
    rfl
  | j + 1, r, I, J, hr, hR, hY => by
    have e0 := hY.1.1
    have e6 := hox.1.1
    obtain ⟨k1, k2, k3, k4, k5, k6, k7, k8⟩ := id hok
    obtain ⟨r1, r2, r3⟩ := hY.1.2 r (by omega)
    obtain ⟨q1, q2, q3⟩ := hox.1.2 r (by omega)
    obtain ⟨I1, J1, f1, f2⟩ := y_Mo_reachOf d hokT (p := S 8 r) (by omega) J hR
    have hl : ∀ t, y_rc T 0 (T 0 4) (S 8 r) = some t → t ≤ 99 := fun t ht => y_rc_le hokT hokT.2.2.2.2.2.1 ht
    obtain ⟨I', J', ih, g2⟩ := y_Mo_seen_l d hok hokT hox j (r + 1) I1 J1 (by omega) (y_vR_ff f2 hR) (y_vY_of (fun q _ _ => f2.1 q (by omega) (by omega) (by omega)) (fun j _ _ => f2.2.1 j (by omega)) hY)
    have s98 : I1 99 r = nI (S 9 r) := by rw [f2.1 99 (by omega) (by omega) (by omega)]; exact r2
    have s104 : I1 104 r = nI (S 10 r) := by rw [f2.1 104 (by omega) (by omega) (by omega)]; exact r3
    have stop : y_sn S (y_rc T 0 (T 0 4)) r = false → (zL (d + 12) q_Mo_isAsSeen 3 [(0, .ref 92), (1, .int (nI r))] (xz_SH, I, J) = some (some (.int 0), (xz_SH, I1, J1))) → ∃ I' J', zL (d + 12) q_Mo_isAsSeen 3 [(0, .ref 92), (1, .int (nI r))] (xz_SH, I, J) = some (some (.int (y_bI (y_fa (y_sn S (y_rc T 0 (T 0 4))) (j + 1) r))), (xz_SH, I', J')) ∧ y_ff I I' J J' := by
      intro h1 h2
      refine ⟨I1, J1, ?_, f2⟩
      rw [h2]
      show _ = some (some (Value.int (y_bI (if y_sn S (y_rc T 0 (T 0 4)) r = true then _ else false))), ((xz_SH, I1, J1) : xz_M))
      rw [h1]
      rfl
    have go : y_sn S (y_rc T 0 (T 0 4)) r = true → (zL (d + 12) q_Mo_isAsSeen 3 [(0, .ref 92), (1, .int (nI r))] (xz_SH, I, J) = some (some (.int (y_bI (y_fa (y_sn S (y_rc T 0 (T 0 4))) j (r + 1)))), (xz_SH, I', J'))) → ∃ I' J', zL (d + 12) q_Mo_isAsSeen 3 [(0, .ref 92), (1, .int (nI r))] (xz_SH, I, J) = some (some (.int (y_bI (y_fa (y_sn S (y_rc T 0 (T 0 4))) (j + 1) r))), (xz_SH, I', J')) ∧ y_ff I I' J J' := by
      intro h1 h2
      refine ⟨I', J', ?_, y_ff_t f2 g2⟩
      rw [h2]
      show _ = some (some (Value.int (y_bI (if y_sn S (y_rc T 0 (T 0 4)) r = true then _ else false))), ((xz_SH, I', J') : xz_M))
      rw [h1]
      rfl
    cases e : y_rc T 0 (T 0 4) (S 8 r) with
    | none =>
      rw [e] at f1
      by_cases f : S 10 r = 1
      · refine stop (by unfold y_sn; rw [e, f]; rfl) (b_Mo_isAsSeen_l3 _ _ _ _ _ ?_)
        simp (maxSteps := 1000000) (disch := omega) only [sh_is0, sh_gI0, sh_wI0, sh_wZ0, sh_gR0, sh_gR1, sh_gR2, sh_lI0, sh_lI1, sh_lI2, sh_sI0, sh_sI1, sh_sI2, sh_len0, sh_len1, sh_len2, sh_lZ0, sh_sZ0, sh_gJ0, sh_wJ0, sh_lR0, sh_lJ0, sh_sJ0, y_eo, y_eb, y_eI, y_eJ, y_eR, y_eV, y_in, nI_clamp, cond_true, y_eqI, y_ltI, y_leI, y_lit, nI_toInt, if_true, if_false, if_pos, if_neg, y_bIt, y_bIf, y_band, e0, r1, f1, y_o5n, s104, f]
      · have f0 : S 10 r = 0 := by omega
        refine go (by unfold y_sn; rw [e, f0]; rfl) (b_Mo_isAsSeen_l3 _ _ _ _ _ ?_)
        simp (maxSteps := 1000000) (disch := omega) only [sh_is0, sh_gI0, sh_wI0, sh_wZ0, sh_gR0, sh_gR1, sh_gR2, sh_lI0, sh_lI1, sh_lI2, sh_sI0, sh_sI1, sh_sI2, sh_len0, sh_len1, sh_len2, sh_lZ0, sh_sZ0, sh_gJ0, sh_wJ0, sh_lR0, sh_lJ0, sh_sJ0, y_eo, y_eb, y_eI, y_eJ, y_eR, y_eV, y_in, nI_clamp, cond_true, y_eqI, y_ltI, y_leI, y_lit, nI_toInt, if_true, if_false, if_pos, if_neg, y_bIt, y_bIf, y_band, e0, r1, f1, y_o5n, s104, f0, y_1, ih]
    | some t =>
      have ht := hl t e
      rw [e] at f1
      by_cases z : t ≤ S 9 r
      · by_cases f : S 10 r = 1
        · refine go (by unfold y_sn; rw [e]; dsimp only; rw [f, decide_eq_true z]; rfl) (b_Mo_isAsSeen_l3 _ _ _ _ _ ?_)
          simp (maxSteps := 1000000) (disch := omega) only [sh_is0, sh_gI0, sh_wI0, sh_wZ0, sh_gR0, sh_gR1, sh_gR2, sh_lI0, sh_lI1, sh_lI2, sh_sI0, sh_sI1, sh_sI2, sh_len0, sh_len1, sh_len2, sh_lZ0, sh_sZ0, sh_gJ0, sh_wJ0, sh_lR0, sh_lJ0, sh_sJ0, y_eo, y_eb, y_eI, y_eJ, y_eR, y_eV, y_in, nI_clamp, cond_true, y_eqI, y_ltI, y_leI, y_lit, nI_toInt, if_true, if_false, if_pos, if_neg, y_bIt, y_bIf, y_band, e0, r1, f1, y_o5s, s98, s104, f, y_1, ih]
        · have f0 : S 10 r = 0 := by omega
          refine stop (by unfold y_sn; rw [e]; dsimp only; rw [f0, decide_eq_true z]; rfl) (b_Mo_isAsSeen_l3 _ _ _ _ _ ?_)
          simp (maxSteps := 1000000) (disch := omega) only [sh_is0, sh_gI0, sh_wI0, sh_wZ0, sh_gR0, sh_gR1, sh_gR2, sh_lI0, sh_lI1, sh_lI2, sh_sI0, sh_sI1, sh_sI2, sh_len0, sh_len1, sh_len2, sh_lZ0, sh_sZ0, sh_gJ0, sh_wJ0, sh_lR0, sh_lJ0, sh_sJ0, y_eo, y_eb, y_eI, y_eJ, y_eR, y_eV, y_in, nI_clamp, cond_true, y_eqI, y_ltI, y_leI, y_lit, nI_toInt, if_true, if_false, if_pos, if_neg, y_bIt, y_bIf, y_band, e0, r1, f1, y_o5s, s98, s104, f0]
      · by_cases f : S 10 r = 1
        · refine stop (by unfold y_sn; rw [e]; dsimp only; rw [f, decide_eq_false z]; rfl) (b_Mo_isAsSeen_l3 _ _ _ _ _ ?_)
          simp (maxSteps := 1000000) (disch := omega) only [sh_is0, sh_gI0, sh_wI0, sh_wZ0, sh_gR0, sh_gR1, sh_gR2, sh_lI0, sh_lI1, sh_lI2, sh_sI0, sh_sI1, sh_sI2, sh_len0, sh_len1, sh_len2, sh_lZ0, sh_sZ0, sh_gJ0, sh_wJ0, sh_lR0, sh_lJ0, sh_sJ0, y_eo, y_eb, y_eI, y_eJ, y_eR, y_eV, y_in, nI_clamp, cond_true, y_eqI, y_ltI, y_leI, y_lit, nI_toInt, if_true, if_false, if_pos, if_neg, y_bIt, y_bIf, y_band, e0, r1, f1, y_o5s, s98, s104, f]
        · have f0 : S 10 r = 0 := by omega
          refine go (by unfold y_sn; rw [e]; dsimp only; rw [f0, decide_eq_false z]; rfl) (b_Mo_isAsSeen_l3 _ _ _ _ _ ?_)
          simp (maxSteps := 1000000) (disch := omega) only [sh_is0, sh_gI0, sh_wI0, sh_wZ0, sh_gR0, sh_gR1, sh_gR2, sh_lI0, sh_lI1, sh_lI2, sh_sI0, sh_sI1, sh_sI2, sh_len0, sh_len1, sh_len2, sh_lZ0, sh_sZ0, sh_gJ0, sh_wJ0, sh_lR0, sh_lJ0, sh_sJ0, y_eo, y_eb, y_eI, y_eJ, y_eR, y_eV, y_in, nI_clamp, cond_true, y_eqI, y_ltI, y_leI, y_lit, nI_toInt, if_true, if_false, if_pos, if_neg, y_bIt, y_bIf, y_band, e0, r1, f1, y_o5s, s98, s104, f0, y_1, ih]
/-- how many, and the first -/
def y_ft (P : Nat → Bool) : Nat → Nat → Nat → Option Nat → Nat × Option Nat
  | 0, _, n, o => (n, o)
  | j + 1, t, n, o => if P t = true then y_ft P j (t + 1) (n + 1) (if n = 0 then some t else o) else y_ft P j (t + 1) n o
theorem y_HR_fits_l (d : Nat) {S : y_S} (hok : y_okM S) (hox : y_okX S) (J : Nat → Nat → Int64) {x : Int32} : ∀ (j t n : Nat) (o : Option Nat) (I : Nat → Nat → Int32), t + j = 21 → n ≤ t → y_vM 1 S I → y_vX 1 S I → ∃ I', zL (d + 5) q_HR_fits 14 [(0, .ref 0), (1, .int x), (2, .int (nI n)), (3, .int (y_o5 o)), (4, .int (nI t))] (xz_SH, I, J) = some (some (.int (if x = 0 then nI (y_ft (fun t => y_fa (y_sn S (y_rc S 0 t)) (S 7 0) 0) j t n o).1 else y_o5 (y_ft (fun t => y_fa (y_sn S (y_rc S 0 t)) (S 7 0) 0) j t n o).2)), (xz_SH, I', J)) ∧ ∀ q, q ≠ 59 → I' q = I q
  | 0, t, n, o, I, ht, hn, hM, hX => by
    refine ⟨I, ?_, fun _ _ => rfl⟩
    refine b_HR_fits_l14 _ _ _ _ _ _ _ _ ?_
    by_cases e : x = 0
    · rw [if_pos e, if_pos (by rw [y_ltI, nI_toInt (by omega)]; simp only [y_lit]; omega), if_pos e]
      rfl
    · rw [if_neg e, if_pos (by rw [y_ltI, nI_toInt (by omega)]; simp only [y_lit]; omega), if_neg e]
      rfl
  | j + 1, t, n, o, I, ht, hn, hM, hX => by
    obtain ⟨I1, f1, f2⟩ := y_HR_seen d hok hox J hM hX (t := t) (by omega)
    have hM1 : y_vM 1 S I1 := y_vM_of (fun q _ _ => f2 q (by omega)) hM
    have hX1 : y_vX 1 S I1 := y_vX_of (fun q _ _ => f2 q (by omega)) hX
    have ih := fun n o hn => y_HR_fits_l d hok hox J (x := x) j (t + 1) n o I1 (by omega) hn hM1 hX1
    have hlt : ¬ ((20 : Int32) < nI t) := by rw [y_ltI, nI_toInt (by omega)]; simp only [y_lit]; omega
    cases e : y_fa (y_sn S (y_rc S 0 t)) (S 7 0) 0 with
    | false =>
      rw [e] at f1
      have es : y_ft (fun t => y_fa (y_sn S (y_rc S 0 t)) (S 7 0) 0) (j + 1) t n o = y_ft (fun t => y_fa (y_sn S (y_rc S 0 t)) (S 7 0) 0) j (t + 1) n o := by
        show (if y_fa (y_sn S (y_rc S 0 t)) (S 7 0) 0 = true then _ else _) = _
        rw [if_neg (by rw [e]; simp)]
      rw [es]
      obtain ⟨I', g1, g2⟩ := ih n o (by omega)
      refine ⟨I', ?_, fun q hq => (g2 q hq).trans (f2 q hq)⟩
      refine b_HR_fits_l14 _ _ _ _ _ _ _ _ ?_
      rw [if_neg hlt]
      simp (maxSteps := 1000000) (disch := omega) only [sh_is0, sh_gI0, sh_wI0, sh_wZ0, sh_gR0, sh_gR1, sh_gR2, sh_lI0, sh_lI1, sh_lI2, sh_sI0, sh_sI1, sh_sI2, sh_len0, sh_len1, sh_len2, sh_lZ0, sh_sZ0, sh_gJ0, sh_wJ0, sh_lR0, sh_lJ0, sh_sJ0, y_eo, y_eb, f1, y_eI]
      rw [if_pos (by decide), y_1]
      exact g1
    | true =>
      rw [e] at f1
      have es : y_ft (fun t => y_fa (y_sn S (y_rc S 0 t)) (S 7 0) 0) (j + 1) t n o = y_ft (fun t => y_fa (y_sn S (y_rc S 0 t)) (S 7 0) 0) j (t + 1) (n + 1) (if n = 0 then some t else o) := by
        show (if y_fa (y_sn S (y_rc S 0 t)) (S 7 0) 0 = true then _ else _) = _
        rw [if_pos e]
      rw [es]
      obtain ⟨I', g1, g2⟩ := ih (n + 1) (if n = 0 then some t else o) (by omega)
      refine ⟨I', ?_, fun q hq => (g2 q hq).trans (f2 q hq)⟩
      refine b_HR_fits_l14 _ _ _ _ _ _ _ _ ?_
      rw [if_neg hlt]
      simp (maxSteps := 1000000) (disch := omega) only [sh_is0, sh_gI0, sh_wI0, sh_wZ0, sh_gR0, sh_gR1, sh_gR2, sh_lI0, sh_lI1, sh_lI2, sh_sI0, sh_sI1, sh_sI2, sh_len0, sh_len1, sh_len2, sh_lZ0, sh_sZ0, sh_gJ0, sh_wJ0, sh_lR0, sh_lJ0, sh_sJ0, y_eo, y_eb, f1, y_eI]
      rw [if_neg (by decide), y_1, y_1]
      by_cases e0 : n = 0
      · rw [if_pos e0] at g1
        rw [if_pos (by rw [e0]; decide)]
        rw [if_pos e0]
        exact g1
      · rw [if_neg e0] at g1
        rw [if_neg (by rw [y_eqI, nI_toInt (by omega)]; simp only [y_lit]; omega)]
        rw [if_neg e0]
        exact g1
theorem y_Mo_fits_l (d : Nat) {S : y_S} (hok : y_okM S) (hox : y_okX S) (w : Nat) {x : Int32} : ∀ (j t n : Nat) (o : Option Nat) (I : Nat → Nat → Int32) (J : Nat → Nat → Int64), t + j = 21 → n ≤ t → (∃ u, y_vR (y_sS S u) I) → y_vY S I → ∃ I' J', zL (d + 13) q_Mo_fits 18 [(0, .ref 92), (1, .int x), (2, .int (nI w)), (3, .int (nI n)), (4, .int (y_o5 o)), (5, .int (nI t))] (xz_SH, I, J) = some (some (.int (if x = 0 then nI (y_ft (fun t => y_fa (y_sn S (y_rc S 0 t)) (S 7 0) 0) j t n o).1 else y_o5 (y_ft (fun t => y_fa (y_sn S (y_rc S 0 t)) (S 7 0) 0) j t n o).2)), (xz_SH, I', J')) ∧ y_fs I I' J J' ∧ I' 92 10 = nI w
  | 0, t, n, o, I, J, ht, hn, hR, hY => by
    refine ⟨xz_up I 92 10 (nI w), J, ?_, ⟨fun q h1 h2 h3 => y_up_r h1, fun j h1 h2 => y_up_n (by omega), fun _ _ => rfl⟩, y_up_e ⟨rfl, rfl⟩⟩
    refine b_Mo_fits_l18 _ _ _ _ _ _ _ _ _ ?_
    rw [if_pos (by rw [y_ltI, nI_toInt (by omega)]; simp only [y_lit]; omega)]
    simp (maxSteps := 1000000) (disch := omega) only [sh_is0, sh_gI0, sh_wI0, sh_wZ0, sh_gR0, sh_gR1, sh_gR2, sh_lI0, sh_lI1, sh_lI2, sh_sI0, sh_sI1, sh_sI2, sh_len0, sh_len1, sh_len2, sh_lZ0, sh_sZ0, sh_gJ0, sh_wJ0, sh_lR0, sh_lJ0, sh_sJ0, y_eo, y_eb]
    by_cases e : x = 0
    · rw [if_pos e, if_pos e]
      rfl
    · rw [if_neg e, if_neg e]
      rfl
  | j + 1, t, n, o, I, J, ht, hn, hR, hY => by
    obtain ⟨u, hR⟩ := hR
    have hR1 : y_vR (y_sS S t) (xz_up I 92 10 (nI t)) := by
      have := y_sS_vR hR t
      have e : y_sS (y_sS S u) t = y_sS S t := by
        funext k j
        unfold y_sS
        by_cases h : k = 0 ∧ j = 4
        · rw [if_pos h, if_pos h]
        · rw [if_neg h, if_neg h, if_neg h]
      rw [e] at this
      exact this
    have hY1 : y_vY S (xz_up I 92 10 (nI t)) := y_vY_of (fun q _ _ => y_up_r (by omega)) (fun j _ _ => y_up_n (by omega)) hY
    obtain ⟨I1, J1, f1, f2⟩ := y_Mo_seen_l d hok (y_sS_ok hok (t := t) (by omega)) hox (S 7 0) 0 _ J (by omega) hR1 hY1
    have f1' := b_Mo_isAsSeen (d + 12) 92 _ _ f1
    have ea : y_rc (y_sS S t) 0 (y_sS S t 0 4) = y_rc S 0 t := by
      funext p
      rw [y_sS_rc, y_sS4]
    rw [ea] at f1'
    have hR2 := y_vR_ff f2 hR1
    have hY2 : y_vY S I1 := y_vY_of (fun q _ _ => f2.1 q (by omega) (by omega) (by omega)) (fun j _ _ => f2.2.1 j (by omega)) hY1
    have hlt : ¬ ((20 : Int32) < nI t) := by rw [y_ltI, nI_toInt (by omega)]; simp only [y_lit]; omega
    have ih := fun n o hn => y_Mo_fits_l d hok hox w (x := x) j (t + 1) n o I1 J1 (by omega) hn ⟨t, hR2⟩ hY2
    have fin : ∀ I' J', y_fs I1 I' J1 J' → y_fs I I' J J' := fun I' J' g => ⟨fun q h1 h2 h3 => by rw [g.1 q h1 h2 h3, f2.1 q h1 h2 h3, y_up_r h1], fun j h1 h2 => by rw [g.2.1 j h1 h2, f2.2.1 j h1, y_up_n (by omega)], fun q hq => by rw [g.2.2 q hq, f2.2.2 q hq]⟩
    cases e : y_fa (y_sn S (y_rc S 0 t)) (S 7 0) 0 with
    | false =>
      rw [e] at f1'
      have es : y_ft (fun t => y_fa (y_sn S (y_rc S 0 t)) (S 7 0) 0) (j + 1) t n o = y_ft (fun t => y_fa (y_sn S (y_rc S 0 t)) (S 7 0) 0) j (t + 1) n o := by
        show (if y_fa (y_sn S (y_rc S 0 t)) (S 7 0) 0 = true then _ else _) = _
        rw [if_neg (by rw [e]; simp)]
      rw [es]
      obtain ⟨I', J', g1, g2, g3⟩ := ih n o (by omega)
      refine ⟨I', J', ?_, fin I' J' g2, g3⟩
      refine b_Mo_fits_l18 _ _ _ _ _ _ _ _ _ ?_
      rw [if_neg hlt]
      simp (maxSteps := 1000000) (disch := omega) only [sh_is0, sh_gI0, sh_wI0, sh_wZ0, sh_gR0, sh_gR1, sh_gR2, sh_lI0, sh_lI1, sh_lI2, sh_sI0, sh_sI1, sh_sI2, sh_len0, sh_len1, sh_len2, sh_lZ0, sh_sZ0, sh_gJ0, sh_wJ0, sh_lR0, sh_lJ0, sh_sJ0, y_eo, y_eb, f1', y_eI]
      rw [if_pos (by decide), y_1]
      exact g1
    | true =>
      rw [e] at f1'
      have es : y_ft (fun t => y_fa (y_sn S (y_rc S 0 t)) (S 7 0) 0) (j + 1) t n o = y_ft (fun t => y_fa (y_sn S (y_rc S 0 t)) (S 7 0) 0) j (t + 1) (n + 1) (if n = 0 then some t else o) := by
        show (if y_fa (y_sn S (y_rc S 0 t)) (S 7 0) 0 = true then _ else _) = _
        rw [if_pos e]
      rw [es]
      obtain ⟨I', J', g1, g2, g3⟩ := ih (n + 1) (if n = 0 then some t else o) (by omega)
      refine ⟨I', J', ?_, fin I' J' g2, g3⟩
      refine b_Mo_fits_l18 _ _ _ _ _ _ _ _ _ ?_
      rw [if_neg hlt]
      simp (maxSteps := 1000000) (disch := omega) only [sh_is0, sh_gI0, sh_wI0, sh_wZ0, sh_gR0, sh_gR1, sh_gR2, sh_lI0, sh_lI1, sh_lI2, sh_sI0, sh_sI1, sh_sI2, sh_len0, sh_len1, sh_len2, sh_lZ0, sh_sZ0, sh_gJ0, sh_wJ0, sh_lR0, sh_lJ0, sh_sJ0, y_eo, y_eb, f1', y_eI]
      rw [if_neg (by decide), y_1, y_1]
      by_cases e0 : n = 0
      · rw [if_pos e0] at g1
        rw [if_pos (by rw [e0]; decide)]
        rw [if_pos e0]
        exact g1
      · rw [if_neg e0] at g1
        rw [if_neg (by rw [y_eqI, nI_toInt (by omega)]; simp only [y_lit]; omega)]
        rw [if_neg e0]
        exact g1
theorem y_sS_self (S : y_S) : y_sS S (S 0 4) = S := by
  funext k j
  unfold y_sS
  by_cases h : k = 0 ∧ j = 4
  · rw [if_pos h, h.1, h.2]
  · rw [if_neg h]
theorem y_s_fits (x : Int32) : zSI zR q_HR_fits q_Mo_fits [.int x] := by
  refine y_simI fun S hok hox => ?_
  cases h : y_rg x 0 1 with
  | false =>
    have h' := y_rgf.mp h
    refine ⟨-1, fun I J hZ => ⟨I, J, ?_, y_sm_r I J⟩, fun I J hZ => ⟨I, J, ?_, y_sm_r I J⟩⟩
    · refine b_HR_fits _ _ _ _ _ ?_
      rw [if_neg (by rw [y_eqI]; simp only [y_lit]; omega), if_neg (by rw [y_eqI]; simp only [y_lit]; omega)]
    · refine b_Mo_fits _ _ _ _ _ ?_
      rw [y_Mo_inI _ x 0 1 (l := 0) (h := 1) (by decide) (by decide), h, y_eI, if_pos (by decide)]
  | true =>
    have h' := y_rgt.mp h
    refine ⟨if x = 0 then nI (y_ft (fun t => y_fa (y_sn S (y_rc S 0 t)) (S 7 0) 0) 21 0 0 none).1 else y_o5 (y_ft (fun t => y_fa (y_sn S (y_rc S 0 t)) (S 7 0) 0) 21 0 0 none).2, fun I J hZ => ?_, fun I J hZ => ?_⟩
    · obtain ⟨I', f1, f2⟩ := y_HR_fits_l 54 hok hox J (x := x) 21 0 0 none I rfl (by omega) hZ.2.1.1 hZ.2.1.2
      refine ⟨I', J, ?_, y_sm_59 J f2⟩
      refine b_HR_fits _ _ _ _ _ ?_
      by_cases e : x = 0
      · rw [if_pos e]
        exact f1
      · rw [if_neg e, if_pos (by rw [y_eqI] at e ⊢; simp only [y_lit] at e ⊢; omega)]
        exact f1
    · obtain ⟨I', J', f1, f2, f3⟩ := y_Mo_fits_l 46 hok hox (S 0 4) (x := x) 21 0 0 none I J rfl (by omega) ⟨S 0 4, by rw [y_sS_self]; exact hZ.2.2.1.1⟩ hZ.2.2.1.2
      have c4 := hZ.2.2.1.1.1.2.2.2.2
      refine ⟨I', J', ?_, y_sm_fd f2.1 (fun j hj => ?_) f2.2.2⟩
      · refine b_Mo_fits _ _ _ _ _ ?_
        rw [y_Mo_inI _ x 0 1 (l := 0) (h := 1) (by decide) (by decide), h, y_eI, if_neg (by decide)]
        simp (maxSteps := 1000000) (disch := omega) only [sh_is0, sh_gI0, sh_wI0, sh_wZ0, sh_gR0, sh_gR1, sh_gR2, sh_lI0, sh_lI1, sh_lI2, sh_sI0, sh_sI1, sh_sI2, sh_len0, sh_len1, sh_len2, sh_lZ0, sh_sZ0, sh_gJ0, sh_wJ0, sh_lR0, sh_lJ0, sh_sJ0, y_eo, y_eb, c4]
        exact f1
      · by_cases e : j = 10
        · rw [e, f3, c4]
        · exact f2.2.1 j hj e
/-! looked -/
def y_fi (P : Nat → Bool) : Nat → Nat → Option Nat
  | 0, _ => none
  | j + 1, m => if P m = true then y_fi P j (m + 1) else some m
def y_bk (S : y_S) (a : y_A) (r : Nat) : Bool := decide (a (S 16 r) = some (S 17 r))
theorem y_bk_i {S : y_S} {a : y_A} {r : Nat} (hl : ∀ t, a (S 16 r) = some t → t ≤ 99) (h17 : S 17 r ≤ 99) : ((y_o5 (a (S 16 r))).toInt = (S 17 r : Int)) = (y_bk S a r = true) := by
  unfold y_bk
  cases e : a (S 16 r) with
  | none =>
    rw [y_o5n]
    simp
  | some t =>
    have := hl t e
    rw [y_o5s, nI_toInt (by omega)]
    simp
    omega
theorem y_HR_looked_l (d : Nat) {S : y_S} (hok : y_okM S) (hox : y_okX S) {a : y_A} {I : Nat → Nat → Int32} (J : Nat → Nat → Int64) (hX : y_vX 1 S I) (hA : y_vA a I) : ∀ (j r : Nat), r + j = S 15 0 → zL (d + 1) q_HR_looked 11 [(0, .ref 0), (1, .int (nI r))] (xz_SH, I, J) = some (some (.int (y_o5 (y_fi (y_bk S a) j r))), (xz_SH, I, J))
  | 0, r, hr => by
    have e0 := hX.2.2.1
    have e6 := hox.2.2.1
    refine b_HR_looked_l11 _ _ _ _ _ ?_
    simp (maxSteps := 1000000) (disch := omega) only [sh_is0, sh_gI0, sh_wI0, sh_wZ0, sh_gR0, sh_gR1, sh_gR2, sh_lI0, sh_lI1, sh_lI2, sh_sI0, sh_sI1, sh_sI2, sh_len0, sh_len1, sh_len2, sh_lZ0, sh_sZ0, sh_gJ0, sh_wJ0, sh_lR0, sh_lJ0, sh_sJ0, y_eo, y_eb, y_eI, y_eJ, y_eR, y_eV, y_in, nI_clamp, cond_true, y_eqI, y_ltI, y_leI, y_lit, nI_toInt, if_true, if_false, if_pos, if_neg, y_bIt, y_bIf, y_band, e0]
    rfl
  | j + 1, r, hr => by
    have ih := y_HR_looked_l d hok hox J hX hA j (r + 1) (by omega)
    have e0 := hX.2.2.1
    have e6 := hox.2.2.1
    obtain ⟨k1, k2, k3, k4, k5, k6, k7, k8⟩ := id hok
    obtain ⟨r1, r2⟩ := hX.2.2.2 r (by omega)
    obtain ⟨q1, q2⟩ := hox.2.2.2 r (by omega)
    obtain ⟨a1, a2⟩ := hA (S 16 r) (by omega)
    have hO := y_Re_of d J hA (show S 16 r < 6 by omega)
    have hbk := y_bk_i a2 q2
    refine b_HR_looked_l11 _ _ _ _ _ ?_
    show _ = some (some (Value.int (y_o5 (if y_bk S a r = true then y_fi (y_bk S a) j (r + 1) else some r))), ((xz_SH, I, J) : xz_M))
    cases e : y_bk S a r with
    | true =>
      rw [if_pos rfl, ← ih]
      simp (maxSteps := 1000000) (disch := omega) only [sh_is0, sh_gI0, sh_wI0, sh_wZ0, sh_gR0, sh_gR1, sh_gR2, sh_lI0, sh_lI1, sh_lI2, sh_sI0, sh_sI1, sh_sI2, sh_len0, sh_len1, sh_len2, sh_lZ0, sh_sZ0, sh_gJ0, sh_wJ0, sh_lR0, sh_lJ0, sh_sJ0, y_eo, y_eb, y_eI, y_eJ, y_eR, y_eV, y_in, nI_clamp, cond_true, y_eqI, y_ltI, y_leI, y_lit, nI_toInt, if_true, if_false, if_pos, if_neg, y_bIt, y_bIf, y_band, e0, r1, r2, hO, hbk, e, y_1]
    | false =>
      rw [if_neg (by simp)]
      simp (maxSteps := 1000000) (disch := omega) only [sh_is0, sh_gI0, sh_wI0, sh_wZ0, sh_gR0, sh_gR1, sh_gR2, sh_lI0, sh_lI1, sh_lI2, sh_sI0, sh_sI1, sh_sI2, sh_len0, sh_len1, sh_len2, sh_lZ0, sh_sZ0, sh_gJ0, sh_wJ0, sh_lR0, sh_lJ0, sh_sJ0, y_eo, y_eb, y_eI, y_eJ, y_eR, y_eV, y_in, nI_clamp, cond_true, y_eqI, y_ltI, y_leI, y_lit, nI_toInt, if_true, if_false, if_pos, if_neg, y_bIt, y_bIf, y_band, e0, r1, r2, hO, hbk, e, Bool.false_eq_true, y_o5s]
theorem y_Mo_looked_l (d : Nat) {S : y_S} (hok : y_okM S) (hox : y_okX S) : ∀ (j r : Nat) (I : Nat → Nat → Int32) (J : Nat → Nat → Int64), r + j = S 15 0 → y_vR S I → y_vY S I → ∃ I' J', zL (d + 12) q_Mo_looked 3 [(0, .ref 92), (1, .int (nI r))] (xz_SH, I, J) = some (some (.int (y_o5 (y_fi (y_bk S (y_rc S 0 (S 0 4))) j r))), (xz_SH, I', J')) ∧ y_ff I I' J J'
  | 0, r, I, J, hr, hR, hY => by
    have e0 := hY.2.2.1
    have e6 := hox.2.2.1
    refine ⟨I, J, ?_, y_ff_r I J⟩
    refine b_Mo_looked_l3 _ _ _ _ _ ?_
    simp (maxSteps := 1000000) (disch := omega) only [sh_is0, sh_gI0, sh_wI0, sh_wZ0, sh_gR0, sh_gR1, sh_gR2, sh_lI0, sh_lI1, sh_lI2, sh_sI0, sh_sI1, sh_sI2, sh_len0, sh_len1, sh_len2, sh_lZ0, sh_sZ0, sh_gJ0, sh_wJ0, sh_lR0, sh_lJ0, sh_sJ0, y_eo, y_eb, y_eI, y_eJ, y_eR, y_eV, y_in, nI_clamp, cond_true, y_eqI, y_ltI, y_leI, y_lit, nI_toInt, if_true, if_false, if_pos, if_neg, y_bIt, y_bIf, y_band, e0]
    rfl
  | j + 1, r, I, J, hr, hR, hY => by
    have e0 := hY.2.2.1
    have e6 := hox.2.2.1
    obtain ⟨k1, k2, k3, k4, k5, k6, k7, k8⟩ := id hok
    obtain ⟨r1, r2⟩ := hY.2.2.2 r (by omega)
    obtain ⟨q1, q2⟩ := hox.2.2.2 r (by omega)
    obtain ⟨I1, J1, f1, f2⟩ := y_Mo_reachOf d hok (p := S 16 r) (by omega) J hR
    have hbk := y_bk_i (S := S) (a := y_rc S 0 (S 0 4)) (r := r) (fun t ht => y_rc_le hok k6 ht) q2
    have s2 : I1 103 r = nI (S 17 r) := by rw [f2.1 103 (by omega) (by omega) (by omega)]; exact r2
    show ∃ I' J', zL (d + 12) q_Mo_looked 3 [(0, .ref 92), (1, .int (nI r))] (xz_SH, I, J) = some (some (.int (y_o5 (if y_bk S (y_rc S 0 (S 0 4)) r = true then y_fi (y_bk S (y_rc S 0 (S 0 4))) j (r + 1) else some r))), (xz_SH, I', J')) ∧ y_ff I I' J J'
    cases e : y_bk S (y_rc S 0 (S 0 4)) r with
    | true =>
      obtain ⟨I', J', g1, g2⟩ := y_Mo_looked_l d hok hox j (r + 1) I1 J1 (by omega) (y_vR_ff f2 hR) (y_vY_of (fun q _ _ => f2.1 q (by omega) (by omega) (by omega)) (fun j _ _ => f2.2.1 j (by omega)) hY)
      refine ⟨I', J', ?_, y_ff_t f2 g2⟩
      rw [if_pos rfl]
      refine b_Mo_looked_l3 _ _ _ _ _ ?_
      simp (maxSteps := 1000000) (disch := omega) only [sh_is0, sh_gI0, sh_wI0, sh_wZ0, sh_gR0, sh_gR1, sh_gR2, sh_lI0, sh_lI1, sh_lI2, sh_sI0, sh_sI1, sh_sI2, sh_len0, sh_len1, sh_len2, sh_lZ0, sh_sZ0, sh_gJ0, sh_wJ0, sh_lR0, sh_lJ0, sh_sJ0, y_eo, y_eb, y_eI, y_eJ, y_eR, y_eV, y_in, nI_clamp, cond_true, y_eqI, y_ltI, y_leI, y_lit, nI_toInt, if_true, if_false, if_pos, if_neg, y_bIt, y_bIf, y_band, e0, r1, s2, f1, hbk, e, y_1]
      exact g1
    | false =>
      refine ⟨I1, J1, ?_, f2⟩
      rw [if_neg (by simp)]
      refine b_Mo_looked_l3 _ _ _ _ _ ?_
      simp (maxSteps := 1000000) (disch := omega) only [sh_is0, sh_gI0, sh_wI0, sh_wZ0, sh_gR0, sh_gR1, sh_gR2, sh_lI0, sh_lI1, sh_lI2, sh_sI0, sh_sI1, sh_sI2, sh_len0, sh_len1, sh_len2, sh_lZ0, sh_sZ0, sh_gJ0, sh_wJ0, sh_lR0, sh_lJ0, sh_sJ0, y_eo, y_eb, y_eI, y_eJ, y_eR, y_eV, y_in, nI_clamp, cond_true, y_eqI, y_ltI, y_leI, y_lit, nI_toInt, if_true, if_false, if_pos, if_neg, y_bIt, y_bIf, y_band, e0, r1, s2, f1, hbk, e, Bool.false_eq_true, y_o5s]
theorem y_s_looked : zSI zR q_HR_looked q_Mo_looked [] := by
  refine y_simI fun S hok hox => ?_
  obtain ⟨k1, k2, k3, k4, k5, k6, k7, k8⟩ := id hok
  refine ⟨y_o5 (y_fi (y_bk S (y_rc S 0 (S 0 4))) (S 15 0) 0), fun I J hZ => ?_, fun I J hZ => ?_⟩
  · obtain ⟨I', f1, f2, f3⟩ := y_Re_fill 55 (Or.inl rfl) hok k6 J hZ.2.1.1
    refine ⟨I', J, ?_, y_sm_59 J f3⟩
    refine b_HR_looked _ _ _ _ ?_
    simp (maxSteps := 1000000) (disch := omega) only [sh_is0, sh_gI0, sh_wI0, sh_wZ0, sh_gR0, sh_gR1, sh_gR2, sh_lI0, sh_lI1, sh_lI2, sh_sI0, sh_sI1, sh_sI2, sh_len0, sh_len1, sh_len2, sh_lZ0, sh_sZ0, sh_gJ0, sh_wJ0, sh_lR0, sh_lJ0, sh_sJ0, y_eo, y_eb, y_eI, y_eJ, y_eR, y_eV, y_in, nI_clamp, cond_true, y_eqI, y_ltI, y_leI, y_lit, nI_toInt, if_true, if_false, if_pos, if_neg, y_bIt, y_bIf, y_band, hZ.2.1.1.1.2.2.2.2, f1]
    exact y_HR_looked_l 58 hok hox J (y_vX_of (fun q _ _ => f3 q (by omega)) hZ.2.1.2) f2 (S 15 0) 0 (by omega)
  · obtain ⟨I', J', f1, f2⟩ := y_Mo_looked_l 47 hok hox (S 15 0) 0 I J (by omega) hZ.2.2.1.1 hZ.2.2.1.2
    exact ⟨I', J', b_Mo_looked _ _ _ _ f1, y_ff_sm f2⟩
