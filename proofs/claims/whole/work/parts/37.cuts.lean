/-! points and the least cut -/
def y_cuts (S : y_S) (v : Nat) : Bool := y_mc S v && !(y_rc S v (S 0 4) (S 0 3)).isSome
theorem y_mc_f {S : y_S} {v : Nat} (e : y_mc S v = true) : v.testBit (S 0 2) = false ∧ v < 1 <<< S 0 0 := by
  unfold y_mc at e
  simp only [Bool.and_eq_true, decide_eq_true_eq, Bool.not_eq_true'] at e
  exact ⟨e.2.1, e.1⟩
theorem y_1lt : ∀ n, n < 7 → ∀ p, p < n → (1 <<< p : Nat) < 1 <<< n := by decide +kernel
theorem y_mc_1 {S : y_S} (hok : y_okM S) {p : Nat} (hp : p < S 0 0) : y_mc S (1 <<< p) = (decide (p ≠ S 0 2) && decide (p ≠ S 0 3)) := by
  obtain ⟨k1, k2, k3, k4, k5, k6, k7, k8⟩ := hok
  unfold y_mc
  rw [decide_eq_true (y_1lt _ (by omega) p hp), Bool.true_and]
  have e : ∀ q, (!(1 <<< p : Nat).testBit q) = decide (p ≠ q) := by
    intro q
    cases h : (1 <<< p : Nat).testBit q with
    | true =>
      have := y_one.mp h
      subst this
      simp
    | false =>
      have : p ≠ q := by
        rintro rfl
        rw [y_one.mpr rfl] at h
        cases h
      simp [this]
  rw [e, e]
theorem y_HR_points_l (d : Nat) {S : y_S} (hok : y_okM S) (J : Nat → Nat → Int64) : ∀ (j p b : Nat) (I : Nat → Nat → Int32), p + j = S 0 0 → b < 64 → y_vM 1 S I → ∃ I', zL (d + 4) q_HR_points 5 [(0, .ref 0), (1, .int (nI b)), (2, .int (nI p))] (xz_SH, I, J) = some (some (.int (nI (y_bits (fun p => y_cuts S (1 <<< p)) j p b))), (xz_SH, I', J)) ∧ ∀ q, q ≠ 59 → I' q = I q
  | 0, p, b, I, hp, hb, hM => by
    obtain ⟨k1, k2, k3, k4, k5, k6, k7, k8⟩ := id hok
    refine ⟨I, ?_, fun _ _ => rfl⟩
    refine b_HR_points_l5 _ _ _ _ _ _ ?_
    simp (maxSteps := 1000000) (disch := omega) only [sh_is0, sh_gI0, sh_wI0, sh_wZ0, sh_gR0, sh_gR1, sh_gR2, sh_lI0, sh_lI1, sh_lI2, sh_sI0, sh_sI1, sh_sI2, sh_len0, sh_len1, sh_len2, sh_lZ0, sh_sZ0, sh_gJ0, sh_wJ0, sh_lR0, sh_lJ0, sh_sJ0, y_eo, y_eb, y_eI, y_eJ, y_eR, y_eV, y_in, nI_clamp, cond_true, y_eqI, y_ltI, y_leI, y_lit, nI_toInt, if_true, if_false, if_pos, if_neg, y_bIt, y_bIf, y_band, hM.1.1]
    rfl
  | j + 1, p, b, I, hp, hb, hM => by
    obtain ⟨k1, k2, k3, k4, k5, k6, k7, k8⟩ := id hok
    have hlt := y_1lt (S 0 0) (by omega) p (by omega)
    have h64 := (y_shl (S 0 0) (by omega)).1
    have ih := fun b I hb hM => y_HR_points_l d hok J j (p + 1) b I (by omega) hb hM
    have hmc := y_HR_mayCut (d + 2) hok J hM (v := 1 <<< p) (by omega)
    show ∃ I', zL (d + 4) q_HR_points 5 [(0, .ref 0), (1, .int (nI b)), (2, .int (nI p))] (xz_SH, I, J) = some (some (.int (nI (y_bits (fun p => y_cuts S (1 <<< p)) j (p + 1) (if y_cuts S (1 <<< p) = true then b ||| 1 <<< p else b)))), (xz_SH, I', J)) ∧ ∀ q, q ≠ 59 → I' q = I q
    cases e : y_mc S (1 <<< p) with
    | false =>
      rw [e] at hmc
      have ec : y_cuts S (1 <<< p) = false := by unfold y_cuts; rw [e]; rfl
      obtain ⟨I', f1, f2⟩ := ih b I hb hM
      refine ⟨I', ?_, f2⟩
      rw [ec, if_neg (by simp)]
      refine b_HR_points_l5 _ _ _ _ _ _ ?_
      simp (maxSteps := 1000000) (disch := omega) only [sh_is0, sh_gI0, sh_wI0, sh_wZ0, sh_gR0, sh_gR1, sh_gR2, sh_lI0, sh_lI1, sh_lI2, sh_sI0, sh_sI1, sh_sI2, sh_len0, sh_len1, sh_len2, sh_lZ0, sh_sZ0, sh_gJ0, sh_wJ0, sh_lR0, sh_lJ0, sh_sJ0, y_eo, y_eb, y_eI, y_eJ, y_eR, y_eV, y_in, nI_clamp, cond_true, y_eqI, y_ltI, y_leI, y_lit, nI_toInt, if_true, if_false, if_pos, if_neg, y_bIt, y_bIf, y_band, hM.1.1, y_bit1, hmc, y_1]
      exact f1
    | true =>
      rw [e] at hmc
      obtain ⟨I1, g1, g2⟩ := y_HR_cutsAll d hok J hM (v := 1 <<< p) (by omega) (y_mc_f e).1
      have hM1 : y_vM 1 S I1 := y_vM_of (fun q _ _ => g2 q (by omega)) hM
      cases e2 : (y_rc S (1 <<< p) (S 0 4) (S 0 3)).isSome with
      | true =>
        rw [e2] at g1
        have g1' : zC (d + 4) q_HR_cutsAll [.ref 0, .int (nI (1 <<< p))] (xz_SH, I, J) = some (some (.int 0), (xz_SH, I1, J)) := g1
        have ec : y_cuts S (1 <<< p) = false := by unfold y_cuts; rw [e, e2]; rfl
        obtain ⟨I', f1, f2⟩ := ih b I1 hb hM1
        refine ⟨I', ?_, fun q hq => (f2 q hq).trans (g2 q hq)⟩
        rw [ec, if_neg (by simp)]
        refine b_HR_points_l5 _ _ _ _ _ _ ?_
        simp (maxSteps := 1000000) (disch := omega) only [sh_is0, sh_gI0, sh_wI0, sh_wZ0, sh_gR0, sh_gR1, sh_gR2, sh_lI0, sh_lI1, sh_lI2, sh_sI0, sh_sI1, sh_sI2, sh_len0, sh_len1, sh_len2, sh_lZ0, sh_sZ0, sh_gJ0, sh_wJ0, sh_lR0, sh_lJ0, sh_sJ0, y_eo, y_eb, y_eI, y_eJ, y_eR, y_eV, y_in, nI_clamp, cond_true, y_eqI, y_ltI, y_leI, y_lit, nI_toInt, if_true, if_false, if_pos, if_neg, y_bIt, y_bIf, y_band, hM.1.1, y_bit1, hmc, g1', y_1]
        exact f1
      | false =>
        rw [e2] at g1
        have g1' : zC (d + 4) q_HR_cutsAll [.ref 0, .int (nI (1 <<< p))] (xz_SH, I, J) = some (some (.int 1), (xz_SH, I1, J)) := g1
        have ec : y_cuts S (1 <<< p) = true := by unfold y_cuts; rw [e, e2]; rfl
        obtain ⟨I', f1, f2⟩ := ih (b ||| 1 <<< p) I1 (y_or64 b hb p (by omega)) hM1
        refine ⟨I', ?_, fun q hq => (f2 q hq).trans (g2 q hq)⟩
        rw [ec, if_pos rfl]
        refine b_HR_points_l5 _ _ _ _ _ _ ?_
        simp (maxSteps := 1000000) (disch := omega) only [sh_is0, sh_gI0, sh_wI0, sh_wZ0, sh_gR0, sh_gR1, sh_gR2, sh_lI0, sh_lI1, sh_lI2, sh_sI0, sh_sI1, sh_sI2, sh_len0, sh_len1, sh_len2, sh_lZ0, sh_sZ0, sh_gJ0, sh_wJ0, sh_lR0, sh_lJ0, sh_sJ0, y_eo, y_eb, y_eI, y_eJ, y_eR, y_eV, y_in, nI_clamp, cond_true, y_eqI, y_ltI, y_leI, y_lit, nI_toInt, if_true, if_false, if_pos, if_neg, y_bIt, y_bIf, y_band, hM.1.1, y_bit1, hmc, g1', y_1, y_bit2 b hb p (by omega)]
        exact f1
theorem y_Mo_points_l (d : Nat) {S : y_S} (hok : y_okM S) : ∀ (j p b : Nat) (I : Nat → Nat → Int32) (J : Nat → Nat → Int64), p + j = S 0 0 → b < 64 → y_vR S I → ∃ I' J', zL (d + 12) q_Mo_points 5 [(0, .ref 92), (1, .int (nI b)), (2, .int (nI p))] (xz_SH, I, J) = some (some (.int (nI (y_bits (fun p => y_cuts S (1 <<< p)) j p b))), (xz_SH, I', J')) ∧ y_ff I I' J J'
  | 0, p, b, I, J, hp, hb, hR => by
    obtain ⟨k1, k2, k3, k4, k5, k6, k7, k8⟩ := id hok
    refine ⟨I, J, ?_, y_ff_r I J⟩
    refine b_Mo_points_l5 _ _ _ _ _ _ ?_
    simp (maxSteps := 1000000) (disch := omega) only [sh_is0, sh_gI0, sh_wI0, sh_wZ0, sh_gR0, sh_gR1, sh_gR2, sh_lI0, sh_lI1, sh_lI2, sh_sI0, sh_sI1, sh_sI2, sh_len0, sh_len1, sh_len2, sh_lZ0, sh_sZ0, sh_gJ0, sh_wJ0, sh_lR0, sh_lJ0, sh_sJ0, y_eo, y_eb, y_eI, y_eJ, y_eR, y_eV, y_in, nI_clamp, cond_true, y_eqI, y_ltI, y_leI, y_lit, nI_toInt, if_true, if_false, if_pos, if_neg, y_bIt, y_bIf, y_band, hR.1.1]
    rfl
  | j + 1, p, b, I, J, hp, hb, hR => by
    obtain ⟨k1, k2, k3, k4, k5, k6, k7, k8⟩ := id hok
    have hlt := y_1lt (S 0 0) (by omega) p (by omega)
    have h64 := (y_shl (S 0 0) (by omega)).1
    have ih := fun b I J hb hR => y_Mo_points_l d hok j (p + 1) b I J (by omega) hb hR
    have hmc : zC (d + 12) q_Mo_mayBeIn [.ref 92, .int (nI p)] (xz_SH, I, J) = some (some (.int (y_bI (y_mc S (1 <<< p)))), (xz_SH, I, J)) := by
      rw [y_mc_1 hok (by omega)]
      refine b_Mo_mayBeIn _ _ _ _ _ ?_
      by_cases z1 : p = S 0 2
      · simp (maxSteps := 1000000) (disch := omega) only [sh_is0, sh_gI0, sh_wI0, sh_wZ0, sh_gR0, sh_gR1, sh_gR2, sh_lI0, sh_lI1, sh_lI2, sh_sI0, sh_sI1, sh_sI2, sh_len0, sh_len1, sh_len2, sh_lZ0, sh_sZ0, sh_gJ0, sh_wJ0, sh_lR0, sh_lJ0, sh_sJ0, y_eo, y_eb, y_eI, y_eJ, y_eR, y_eV, y_in, nI_clamp, cond_true, y_eqI, y_ltI, y_leI, y_lit, nI_toInt, if_true, if_false, if_pos, if_neg, y_bIt, y_bIf, y_band, hR.1.2.2.1, decide_eq_false (not_not_intro z1), Bool.false_and]
      · by_cases z2 : p = S 0 3
        · simp (maxSteps := 1000000) (disch := omega) only [sh_is0, sh_gI0, sh_wI0, sh_wZ0, sh_gR0, sh_gR1, sh_gR2, sh_lI0, sh_lI1, sh_lI2, sh_sI0, sh_sI1, sh_sI2, sh_len0, sh_len1, sh_len2, sh_lZ0, sh_sZ0, sh_gJ0, sh_wJ0, sh_lR0, sh_lJ0, sh_sJ0, y_eo, y_eb, y_eI, y_eJ, y_eR, y_eV, y_in, nI_clamp, cond_true, y_eqI, y_ltI, y_leI, y_lit, nI_toInt, if_true, if_false, if_pos, if_neg, y_bIt, y_bIf, y_band, hR.1.2.2.1, hR.1.2.2.2.1, decide_eq_true z1, decide_eq_false (not_not_intro z2), Bool.true_and]
        · simp (maxSteps := 1000000) (disch := omega) only [sh_is0, sh_gI0, sh_wI0, sh_wZ0, sh_gR0, sh_gR1, sh_gR2, sh_lI0, sh_lI1, sh_lI2, sh_sI0, sh_sI1, sh_sI2, sh_len0, sh_len1, sh_len2, sh_lZ0, sh_sZ0, sh_gJ0, sh_wJ0, sh_lR0, sh_lJ0, sh_sJ0, y_eo, y_eb, y_eI, y_eJ, y_eR, y_eV, y_in, nI_clamp, cond_true, y_eqI, y_ltI, y_leI, y_lit, nI_toInt, if_true, if_false, if_pos, if_neg, y_bIt, y_bIf, y_band, hR.1.2.2.1, hR.1.2.2.2.1, decide_eq_true z1, decide_eq_true z2, Bool.true_and]
    show ∃ I' J', zL (d + 12) q_Mo_points 5 [(0, .ref 92), (1, .int (nI b)), (2, .int (nI p))] (xz_SH, I, J) = some (some (.int (nI (y_bits (fun p => y_cuts S (1 <<< p)) j (p + 1) (if y_cuts S (1 <<< p) = true then b ||| 1 <<< p else b)))), (xz_SH, I', J')) ∧ y_ff I I' J J'
    cases e : y_mc S (1 <<< p) with
    | false =>
      rw [e] at hmc
      have ec : y_cuts S (1 <<< p) = false := by unfold y_cuts; rw [e]; rfl
      obtain ⟨I', J', f1, f2⟩ := ih b I J hb hR
      refine ⟨I', J', ?_, f2⟩
      rw [ec, if_neg (by simp)]
      refine b_Mo_points_l5 _ _ _ _ _ _ ?_
      simp (maxSteps := 1000000) (disch := omega) only [sh_is0, sh_gI0, sh_wI0, sh_wZ0, sh_gR0, sh_gR1, sh_gR2, sh_lI0, sh_lI1, sh_lI2, sh_sI0, sh_sI1, sh_sI2, sh_len0, sh_len1, sh_len2, sh_lZ0, sh_sZ0, sh_gJ0, sh_wJ0, sh_lR0, sh_lJ0, sh_sJ0, y_eo, y_eb, y_eI, y_eJ, y_eR, y_eV, y_in, nI_clamp, cond_true, y_eqI, y_ltI, y_leI, y_lit, nI_toInt, if_true, if_false, if_pos, if_neg, y_bIt, y_bIf, y_band, hR.1.1, hmc, y_1]
      exact f1
    | true =>
      rw [e] at hmc
      obtain ⟨I1, J1, g1, g2⟩ := y_Mo_isThereOne d hok (B := 1 <<< p) (by omega) J hR
      have hR1 := y_vR_ff g2 hR
      cases e2 : (y_rc S (1 <<< p) (S 0 4) (S 0 3)).isSome with
      | true =>
        rw [e2] at g1
        have ec : y_cuts S (1 <<< p) = false := by unfold y_cuts; rw [e, e2]; rfl
        obtain ⟨I', J', f1, f2⟩ := ih b I1 J1 hb hR1
        refine ⟨I', J', ?_, y_ff_t g2 f2⟩
        rw [ec, if_neg (by simp)]
        refine b_Mo_points_l5 _ _ _ _ _ _ ?_
        simp (maxSteps := 1000000) (disch := omega) only [sh_is0, sh_gI0, sh_wI0, sh_wZ0, sh_gR0, sh_gR1, sh_gR2, sh_lI0, sh_lI1, sh_lI2, sh_sI0, sh_sI1, sh_sI2, sh_len0, sh_len1, sh_len2, sh_lZ0, sh_sZ0, sh_gJ0, sh_wJ0, sh_lR0, sh_lJ0, sh_sJ0, y_eo, y_eb, y_eI, y_eJ, y_eR, y_eV, y_in, nI_clamp, cond_true, y_eqI, y_ltI, y_leI, y_lit, nI_toInt, if_true, if_false, if_pos, if_neg, y_bIt, y_bIf, y_band, hR.1.1, y_bit1, hmc, g1, y_1]
        exact f1
      | false =>
        rw [e2] at g1
        have ec : y_cuts S (1 <<< p) = true := by unfold y_cuts; rw [e, e2]; rfl
        obtain ⟨I', J', f1, f2⟩ := ih (b ||| 1 <<< p) I1 J1 (y_or64 b hb p (by omega)) hR1
        refine ⟨I', J', ?_, y_ff_t g2 f2⟩
        rw [ec, if_pos rfl]
        refine b_Mo_points_l5 _ _ _ _ _ _ ?_
        simp (maxSteps := 1000000) (disch := omega) only [sh_is0, sh_gI0, sh_wI0, sh_wZ0, sh_gR0, sh_gR1, sh_gR2, sh_lI0, sh_lI1, sh_lI2, sh_sI0, sh_sI1, sh_sI2, sh_len0, sh_len1, sh_len2, sh_lZ0, sh_sZ0, sh_gJ0, sh_wJ0, sh_lR0, sh_lJ0, sh_sJ0, y_eo, y_eb, y_eI, y_eJ, y_eR, y_eV, y_in, nI_clamp, cond_true, y_eqI, y_ltI, y_leI, y_lit, nI_toInt, if_true, if_false, if_pos, if_neg, y_bIt, y_bIf, y_band, hR.1.1, y_bit1, hmc, g1, y_1, y_bit2 b hb p (by omega)]
        exact f1
/-! the least cut -/
theorem y_JD_bitCount (d : Nat) {v : Nat} (hv : v < 64) (M : xz_M) : zC (d + 1) q_JD_bitCount [.int (nI v)] M = some (some (.int (nI (y_pc v))), M) := by
  refine b_JD_bitCount _ _ _ _ ?_
  refine congrArg (fun x => some (some (Value.int x), M)) ?_
  revert v hv
  decide +kernel
theorem y_Mo_bits (d : Nat) {v : Nat} (hv : v < 64) (M : xz_M) : zC (d + 1) q_Mo_bits [.int (nI v)] M = some (some (.int (nI (y_pc v))), M) := by
  refine b_Mo_bits _ _ _ _ ?_
  refine b_Mo_bits_l5 _ _ _ _ _ _ ?_
  rw [if_neg (by decide)]
  refine b_Mo_bits_l5 _ _ _ _ _ _ ?_
  rw [if_neg (by decide)]
  refine b_Mo_bits_l5 _ _ _ _ _ _ ?_
  rw [if_neg (by decide)]
  refine b_Mo_bits_l5 _ _ _ _ _ _ ?_
  rw [if_neg (by decide)]
  refine b_Mo_bits_l5 _ _ _ _ _ _ ?_
  rw [if_neg (by decide)]
  refine b_Mo_bits_l5 _ _ _ _ _ _ ?_
  rw [if_neg (by decide)]
  refine b_Mo_bits_l5 _ _ _ _ _ _ ?_
  rw [if_pos (by decide)]
  refine congrArg (fun x => some (some (Value.int x), M)) ?_
  revert v hv
  decide +kernel
theorem y_pc_n : ∀ n, n < 7 → ∀ f, f < n → ∀ w, w < 1 <<< n → w.testBit f = false → y_pc w < n := by decide +kernel
/-- the least of the good sets -/
def y_lcP (G : Nat → Bool) (o : Option Nat) : Prop := match o with
  | some v => G v = true ∧ ∀ w, G w = true → y_pc v < y_pc w ∨ (y_pc v = y_pc w ∧ v ≤ w)
  | none => ∀ w, G w = false
theorem y_lcP_u {G : Nat → Bool} {o o' : Option Nat} (h : y_lcP G o) (h' : y_lcP G o') : o = o' := by
  cases o with
  | none =>
    cases o' with
    | none => rfl
    | some t =>
      have := h t
      rw [h'.1] at this
      cases this
  | some t =>
    cases o' with
    | none =>
      have := h' t
      rw [h.1] at this
      cases this
    | some u =>
      have h1 := h.2 u h'.1
      have h2 := h'.2 t h.1
      rw [show t = u by omega]
/-- .. of those below b -/
def y_lcb (G : Nat → Bool) (b : Nat) (o : Option Nat) : Prop := match o with
  | some v => G v = true ∧ v < b ∧ ∀ w, w < b → G w = true → y_pc v < y_pc w ∨ (y_pc v = y_pc w ∧ v ≤ w)
  | none => ∀ w, w < b → G w = false
theorem y_cuts_lt {S : y_S} {w : Nat} (h : y_cuts S w = true) : w < 1 <<< S 0 0 ∧ w.testBit (S 0 2) = false := by
  unfold y_cuts at h
  simp only [Bool.and_eq_true] at h
  have := y_mc_f h.1
  exact ⟨this.2, this.1⟩
def y_few (o : Option Nat) : Nat := match o with
  | some v => y_pc v
  | none => 7
theorem y_HR_lc_l (d : Nat) {S : y_S} (hok : y_okM S) (J : Nat → Nat → Int64) : ∀ (j v : Nat) (o : Option Nat) (I : Nat → Nat → Int32), v + j = 1 <<< S 0 0 → y_lcb (y_cuts S) v o → y_vM 1 S I → ∃ I' o', zL (d + 4) q_HR_leastCut 7 [(0, .ref 0), (1, .int (y_o5 o)), (2, .int (nI (y_few o))), (3, .int (nI v))] (xz_SH, I, J) = some (some (.int (y_o5 o')), (xz_SH, I', J)) ∧ y_lcP (y_cuts S) o' ∧ ∀ q, q ≠ 59 → I' q = I q
  | 0, v, o, I, hv, ho, hM => by
    obtain ⟨k1, k2, k3, k4, k5, k6, k7, k8⟩ := id hok
    have h64 := (y_shl (S 0 0) (by omega)).1
    refine ⟨I, o, ?_, ?_, fun _ _ => rfl⟩
    · refine b_HR_leastCut_l7 _ _ _ _ _ _ _ ?_
      simp (maxSteps := 1000000) (disch := omega) only [sh_is0, sh_gI0, sh_wI0, sh_wZ0, sh_gR0, sh_gR1, sh_gR2, sh_lI0, sh_lI1, sh_lI2, sh_sI0, sh_sI1, sh_sI2, sh_len0, sh_len1, sh_len2, sh_lZ0, sh_sZ0, sh_gJ0, sh_wJ0, sh_lR0, sh_lJ0, sh_sJ0, y_eo, y_eb, y_eI, y_eJ, y_eR, y_eV, y_in, nI_clamp, cond_true, y_eqI, y_ltI, y_leI, y_lit, nI_toInt, if_true, if_false, if_pos, if_neg, y_bIt, y_bIf, y_band, hM.1.1, y_bit1]
    · have hv' : v = 1 <<< S 0 0 := by omega
      subst hv'
      cases o with
      | none =>
        intro w
        cases h : y_cuts S w with
        | false => rfl
        | true =>
          have := ho w (y_cuts_lt h).1
          rw [h] at this
          cases this
      | some u => exact ⟨ho.1, fun w hw => ho.2.2 w (y_cuts_lt hw).1 hw⟩
  | j + 1, v, o, I, hv, ho, hM => by
    obtain ⟨k1, k2, k3, k4, k5, k6, k7, k8⟩ := id hok
    have h64 := (y_shl (S 0 0) (by omega)).1
    have hv64 : v < 64 := by omega
    have hpv := y_pc_le v hv64
    have hfew : y_few o ≤ 7 := by
      cases o with
      | none => exact Nat.le_refl _
      | some u =>
        have := y_pc_le u (by have := ho.2.1; omega)
        show y_pc u ≤ 7
        omega
    have ih := fun o I ho hM => y_HR_lc_l d hok J j (v + 1) o I (by omega) ho hM
    have hmc := y_HR_mayCut (d + 2) hok J hM hv64
    have hbc := y_JD_bitCount (d + 3) hv64 (xz_SH, I, J)
    -- v is no cut, or too large: o stays
    have stay : (y_pc v < y_few o → y_cuts S v = false) → y_lcb (y_cuts S) (v + 1) o := by
      intro hs
      cases o with
      | none =>
        intro w hw
        by_cases hwv : w = v
        · rw [hwv]
          exact hs (by show y_pc v < 7; omega)
        · exact ho w (by omega)
      | some u =>
        refine ⟨ho.1, by have := ho.2.1; omega, fun w hw hg => ?_⟩
        by_cases hwv : w = v
        · subst hwv
          have h1 : ¬ y_pc w < y_few (some u) := fun z => by rw [hs z] at hg; cases hg
          have h2 : y_few (some u) = y_pc u := rfl
          have := ho.2.1
          omega
        · exact ho.2.2 w (by omega) hg
    by_cases e0 : y_few o ≤ y_pc v
    · obtain ⟨I', o', f1, f2, f3⟩ := ih o I (stay (fun z => by omega)) hM
      refine ⟨I', o', ?_, f2, f3⟩
      refine b_HR_leastCut_l7 _ _ _ _ _ _ _ ?_
      simp (maxSteps := 1000000) (disch := omega) only [sh_is0, sh_gI0, sh_wI0, sh_wZ0, sh_gR0, sh_gR1, sh_gR2, sh_lI0, sh_lI1, sh_lI2, sh_sI0, sh_sI1, sh_sI2, sh_len0, sh_len1, sh_len2, sh_lZ0, sh_sZ0, sh_gJ0, sh_wJ0, sh_lR0, sh_lJ0, sh_sJ0, y_eo, y_eb, y_eI, y_eJ, y_eR, y_eV, y_in, nI_clamp, cond_true, y_eqI, y_ltI, y_leI, y_lit, nI_toInt, if_true, if_false, if_pos, if_neg, y_bIt, y_bIf, y_band, hM.1.1, y_bit1, hbc, y_1]
      exact f1
    · cases e : y_mc S v with
      | false =>
        rw [e] at hmc
        obtain ⟨I', o', f1, f2, f3⟩ := ih o I (stay (fun _ => by unfold y_cuts; rw [e]; rfl)) hM
        refine ⟨I', o', ?_, f2, f3⟩
        refine b_HR_leastCut_l7 _ _ _ _ _ _ _ ?_
        simp (maxSteps := 1000000) (disch := omega) only [sh_is0, sh_gI0, sh_wI0, sh_wZ0, sh_gR0, sh_gR1, sh_gR2, sh_lI0, sh_lI1, sh_lI2, sh_sI0, sh_sI1, sh_sI2, sh_len0, sh_len1, sh_len2, sh_lZ0, sh_sZ0, sh_gJ0, sh_wJ0, sh_lR0, sh_lJ0, sh_sJ0, y_eo, y_eb, y_eI, y_eJ, y_eR, y_eV, y_in, nI_clamp, cond_true, y_eqI, y_ltI, y_leI, y_lit, nI_toInt, if_true, if_false, if_pos, if_neg, y_bIt, y_bIf, y_band, hM.1.1, y_bit1, hbc, hmc, y_1]
        exact f1
      | true =>
        rw [e] at hmc
        obtain ⟨I1, g1, g2⟩ := y_HR_cutsAll d hok J hM hv64 (y_mc_f e).1
        have hM1 : y_vM 1 S I1 := y_vM_of (fun q _ _ => g2 q (by omega)) hM
        cases e2 : (y_rc S v (S 0 4) (S 0 3)).isSome with
        | true =>
          rw [e2] at g1
          have g1' : zC (d + 4) q_HR_cutsAll [.ref 0, .int (nI v)] (xz_SH, I, J) = some (some (.int 0), (xz_SH, I1, J)) := g1
          obtain ⟨I', o', f1, f2, f3⟩ := ih o I1 (stay (fun _ => by unfold y_cuts; rw [e, e2]; rfl)) hM1
          refine ⟨I', o', ?_, f2, fun q hq => (f3 q hq).trans (g2 q hq)⟩
          refine b_HR_leastCut_l7 _ _ _ _ _ _ _ ?_
          simp (maxSteps := 1000000) (disch := omega) only [sh_is0, sh_gI0, sh_wI0, sh_wZ0, sh_gR0, sh_gR1, sh_gR2, sh_lI0, sh_lI1, sh_lI2, sh_sI0, sh_sI1, sh_sI2, sh_len0, sh_len1, sh_len2, sh_lZ0, sh_sZ0, sh_gJ0, sh_wJ0, sh_lR0, sh_lJ0, sh_sJ0, y_eo, y_eb, y_eI, y_eJ, y_eR, y_eV, y_in, nI_clamp, cond_true, y_eqI, y_ltI, y_leI, y_lit, nI_toInt, if_true, if_false, if_pos, if_neg, y_bIt, y_bIf, y_band, hM.1.1, y_bit1, hbc, hmc, g1', y_1]
          exact f1
        | false =>
          rw [e2] at g1
          have g1' : zC (d + 4) q_HR_cutsAll [.ref 0, .int (nI v)] (xz_SH, I, J) = some (some (.int 1), (xz_SH, I1, J)) := g1
          have ec : y_cuts S v = true := by unfold y_cuts; rw [e, e2]; rfl
          have hnew : y_lcb (y_cuts S) (v + 1) (some v) := by
            refine ⟨ec, by omega, fun w hw hg => ?_⟩
            by_cases hwv : w = v
            · subst hwv
              exact Or.inr ⟨rfl, Nat.le_refl _⟩
            · left
              cases o with
              | none =>
                have := ho w (by omega)
                rw [hg] at this
                cases this
              | some u =>
                have h2 : y_few (some u) = y_pc u := rfl
                have := ho.2.2 w (by omega) hg
                omega
          obtain ⟨I', o', f1, f2, f3⟩ := ih (some v) I1 hnew hM1
          refine ⟨I', o', ?_, f2, fun q hq => (f3 q hq).trans (g2 q hq)⟩
          refine b_HR_leastCut_l7 _ _ _ _ _ _ _ ?_
          simp (maxSteps := 1000000) (disch := omega) only [sh_is0, sh_gI0, sh_wI0, sh_wZ0, sh_gR0, sh_gR1, sh_gR2, sh_lI0, sh_lI1, sh_lI2, sh_sI0, sh_sI1, sh_sI2, sh_len0, sh_len1, sh_len2, sh_lZ0, sh_sZ0, sh_gJ0, sh_wJ0, sh_lR0, sh_lJ0, sh_sJ0, y_eo, y_eb, y_eI, y_eJ, y_eR, y_eV, y_in, nI_clamp, cond_true, y_eqI, y_ltI, y_leI, y_lit, nI_toInt, if_true, if_false, if_pos, if_neg, y_bIt, y_bIf, y_band, hM.1.1, y_bit1, hbc, hmc, g1', y_1]
          exact f1
theorem y_Mo_lc_l (d : Nat) {S : y_S} (hok : y_okM S) : ∀ (i c : Nat), c + i = S 0 0 → ∀ (I : Nat → Nat → Int32) (J : Nat → Nat → Int64), y_vR S I → (∀ w, y_cuts S w = true → c ≤ y_pc w) → ∃ I' J' o', zL (d + 12) q_Mo_leastCut 3 [(0, .ref 92), (1, .int (nI c))] (xz_SH, I, J) = some (some (.int (y_o5 o')), (xz_SH, I', J')) ∧ y_lcP (y_cuts S) o' ∧ y_ff I I' J J' := by
  obtain ⟨k1, k2, k3, k4, k5, k6, k7, k8⟩ := id hok
  have h64 := (y_shl (S 0 0) (by omega)).1
  intro i
  induction i with
  | zero =>
    intro c hc I J hR hall
    refine ⟨I, J, none, ?_, fun w => ?_, y_ff_r I J⟩
    · refine b_Mo_leastCut_l3 _ _ _ _ _ ?_
      simp (maxSteps := 1000000) (disch := omega) only [sh_is0, sh_gI0, sh_wI0, sh_wZ0, sh_gR0, sh_gR1, sh_gR2, sh_lI0, sh_lI1, sh_lI2, sh_sI0, sh_sI1, sh_sI2, sh_len0, sh_len1, sh_len2, sh_lZ0, sh_sZ0, sh_gJ0, sh_wJ0, sh_lR0, sh_lJ0, sh_sJ0, y_eo, y_eb, y_eI, y_eJ, y_eR, y_eV, y_in, nI_clamp, cond_true, y_eqI, y_ltI, y_leI, y_lit, nI_toInt, if_true, if_false, if_pos, if_neg, y_bIt, y_bIf, y_band, hR.1.1]
      rfl
    · cases h : y_cuts S w with
      | false => rfl
      | true =>
        have h1 := hall w h
        have h2 := y_cuts_lt h
        have := y_pc_n (S 0 0) (by omega) (S 0 2) k4 w h2.1 h2.2
        omega
  | succ i ih =>
    intro c hc
    have loop : ∀ (j v : Nat) (I : Nat → Nat → Int32) (J : Nat → Nat → Int64), v + j = 1 <<< S 0 0 → y_vR S I → (∀ w, y_cuts S w = true → c < y_pc w ∨ (c = y_pc w ∧ v ≤ w)) → ∃ I' J' o', zL (d + 12) q_Mo_leastCut 10 [(0, .ref 92), (1, .int (nI c)), (2, .int (nI v))] (xz_SH, I, J) = some (some (.int (y_o5 o')), (xz_SH, I', J')) ∧ y_lcP (y_cuts S) o' ∧ y_ff I I' J J' := by
      intro j
      induction j with
      | zero =>
        intro v I J hv hR hall
        obtain ⟨I', J', o', f1, f2, f3⟩ := ih (c + 1) (by omega) I J hR (fun w hw => by
          have := hall w hw
          have := (y_cuts_lt hw).1
          omega)
        refine ⟨I', J', o', ?_, f2, f3⟩
        refine b_Mo_leastCut_l10 _ _ _ _ _ _ ?_
        simp (maxSteps := 1000000) (disch := omega) only [sh_is0, sh_gI0, sh_wI0, sh_wZ0, sh_gR0, sh_gR1, sh_gR2, sh_lI0, sh_lI1, sh_lI2, sh_sI0, sh_sI1, sh_sI2, sh_len0, sh_len1, sh_len2, sh_lZ0, sh_sZ0, sh_gJ0, sh_wJ0, sh_lR0, sh_lJ0, sh_sJ0, y_eo, y_eb, y_eI, y_eJ, y_eR, y_eV, y_in, nI_clamp, cond_true, y_eqI, y_ltI, y_leI, y_lit, nI_toInt, if_true, if_false, if_pos, if_neg, y_bIt, y_bIf, y_band, hR.1.1, y_bit1, y_1]
        exact f1
      | succ j jh =>
        intro v I J hv hR hall
        have hv64 : v < 64 := by omega
        have hpv := y_pc_le v hv64
        have hbc := y_Mo_bits (d + 11) hv64 (xz_SH, I, J)
        have hst := y_Mo_isSet (d + 10) hok J hR hv64
        have next : (y_pc v = c → y_cuts S v = false) → ∀ w, y_cuts S w = true → c < y_pc w ∨ (c = y_pc w ∧ v + 1 ≤ w) := by
          intro hs w hw
          have h1 := hall w hw
          by_cases hwv : w = v
          · subst hwv
            by_cases hz : y_pc w = c
            · rw [hs hz] at hw
              cases hw
            · omega
          · omega
        by_cases e0 : y_pc v = c
        · cases e : y_mc S v with
          | false =>
            rw [e] at hst
            obtain ⟨I', J', o', f1, f2, f3⟩ := jh (v + 1) I J (by omega) hR (next (fun _ => by unfold y_cuts; rw [e]; rfl))
            refine ⟨I', J', o', ?_, f2, f3⟩
            refine b_Mo_leastCut_l10 _ _ _ _ _ _ ?_
            simp (maxSteps := 1000000) (disch := omega) only [sh_is0, sh_gI0, sh_wI0, sh_wZ0, sh_gR0, sh_gR1, sh_gR2, sh_lI0, sh_lI1, sh_lI2, sh_sI0, sh_sI1, sh_sI2, sh_len0, sh_len1, sh_len2, sh_lZ0, sh_sZ0, sh_gJ0, sh_wJ0, sh_lR0, sh_lJ0, sh_sJ0, y_eo, y_eb, y_eI, y_eJ, y_eR, y_eV, y_in, nI_clamp, cond_true, y_eqI, y_ltI, y_leI, y_lit, nI_toInt, if_true, if_false, if_pos, if_neg, y_bIt, y_bIf, y_band, hR.1.1, y_bit1, hbc, hst, y_1]
            exact f1
          | true =>
            rw [e] at hst
            obtain ⟨I1, J1, g1, g2⟩ := y_Mo_isThereOne d hok hv64 J hR
            have hR1 := y_vR_ff g2 hR
            cases e2 : (y_rc S v (S 0 4) (S 0 3)).isSome with
            | true =>
              rw [e2] at g1
              obtain ⟨I', J', o', f1, f2, f3⟩ := jh (v + 1) I1 J1 (by omega) hR1 (next (fun _ => by unfold y_cuts; rw [e, e2]; rfl))
              refine ⟨I', J', o', ?_, f2, y_ff_t g2 f3⟩
              refine b_Mo_leastCut_l10 _ _ _ _ _ _ ?_
              simp (maxSteps := 1000000) (disch := omega) only [sh_is0, sh_gI0, sh_wI0, sh_wZ0, sh_gR0, sh_gR1, sh_gR2, sh_lI0, sh_lI1, sh_lI2, sh_sI0, sh_sI1, sh_sI2, sh_len0, sh_len1, sh_len2, sh_lZ0, sh_sZ0, sh_gJ0, sh_wJ0, sh_lR0, sh_lJ0, sh_sJ0, y_eo, y_eb, y_eI, y_eJ, y_eR, y_eV, y_in, nI_clamp, cond_true, y_eqI, y_ltI, y_leI, y_lit, nI_toInt, if_true, if_false, if_pos, if_neg, y_bIt, y_bIf, y_band, hR.1.1, y_bit1, hbc, hst, g1, y_1]
              exact f1
            | false =>
              rw [e2] at g1
              have ec : y_cuts S v = true := by unfold y_cuts; rw [e, e2]; rfl
              refine ⟨I1, J1, some v, ?_, ⟨ec, fun w hw => ?_⟩, g2⟩
              · refine b_Mo_leastCut_l10 _ _ _ _ _ _ ?_
                simp (maxSteps := 1000000) (disch := omega) only [sh_is0, sh_gI0, sh_wI0, sh_wZ0, sh_gR0, sh_gR1, sh_gR2, sh_lI0, sh_lI1, sh_lI2, sh_sI0, sh_sI1, sh_sI2, sh_len0, sh_len1, sh_len2, sh_lZ0, sh_sZ0, sh_gJ0, sh_wJ0, sh_lR0, sh_lJ0, sh_sJ0, y_eo, y_eb, y_eI, y_eJ, y_eR, y_eV, y_in, nI_clamp, cond_true, y_eqI, y_ltI, y_leI, y_lit, nI_toInt, if_true, if_false, if_pos, if_neg, y_bIt, y_bIf, y_band, hR.1.1, y_bit1, hbc, hst, g1, y_o5s]
              · have := hall w hw
                omega
        · obtain ⟨I', J', o', f1, f2, f3⟩ := jh (v + 1) I J (by omega) hR (next (fun z => absurd z e0))
          refine ⟨I', J', o', ?_, f2, f3⟩
          refine b_Mo_leastCut_l10 _ _ _ _ _ _ ?_
          simp (maxSteps := 1000000) (disch := omega) only [sh_is0, sh_gI0, sh_wI0, sh_wZ0, sh_gR0, sh_gR1, sh_gR2, sh_lI0, sh_lI1, sh_lI2, sh_sI0, sh_sI1, sh_sI2, sh_len0, sh_len1, sh_len2, sh_lZ0, sh_sZ0, sh_gJ0, sh_wJ0, sh_lR0, sh_lJ0, sh_sJ0, y_eo, y_eb, y_eI, y_eJ, y_eR, y_eV, y_in, nI_clamp, cond_true, y_eqI, y_ltI, y_leI, y_lit, nI_toInt, if_true, if_false, if_pos, if_neg, y_bIt, y_bIf, y_band, hR.1.1, y_bit1, hbc, y_1]
          exact f1
    intro I J hR hall
    obtain ⟨I', J', o', f1, f2, f3⟩ := loop (1 <<< S 0 0) 0 I J (by omega) hR (fun w hw => by have := hall w hw; omega)
    refine ⟨I', J', o', ?_, f2, f3⟩
    refine b_Mo_leastCut_l3 _ _ _ _ _ ?_
    simp (maxSteps := 1000000) (disch := omega) only [sh_is0, sh_gI0, sh_wI0, sh_wZ0, sh_gR0, sh_gR1, sh_gR2, sh_lI0, sh_lI1, sh_lI2, sh_sI0, sh_sI1, sh_sI2, sh_len0, sh_len1, sh_len2, sh_lZ0, sh_sZ0, sh_gJ0, sh_wJ0, sh_lR0, sh_lJ0, sh_sJ0, y_eo, y_eb, y_eI, y_eJ, y_eR, y_eV, y_in, nI_clamp, cond_true, y_eqI, y_ltI, y_leI, y_lit, nI_toInt, if_true, if_false, if_pos, if_neg, y_bIt, y_bIf, y_band, hR.1.1]
    exact f1
