/-! CALLS THAT CHANGE what is now: each by itself on the class's half and on the reference's -/
def y_ps (S : y_S) (k j v : Nat) : y_S := fun k' j' => if k' = k ∧ j' = j then v else S k' j'
theorem y_ps_e {S : y_S} {k j v k' j' : Nat} (h : k' = k ∧ j' = j) : y_ps S k j v k' j' = v := if_pos h
theorem y_ps_n {S : y_S} {k j v k' j' : Nat} (h : k' ≠ k ∨ j' ≠ j) : y_ps S k j v k' j' = S k' j' := if_neg (by omega)
def y_ZC (S : y_S) (I : Nat → Nat → Int32) : Prop := y_okM S ∧ y_okX S ∧ y_vM 1 S I ∧ y_vX 1 S I ∧ y_cst I
def y_ZD (S : y_S) (I : Nat → Nat → Int32) : Prop := y_okM S ∧ y_okX S ∧ y_vR S I ∧ y_vY S I
def y_fC (I I' : Nat → Nat → Int32) (J J' : Nat → Nat → Int64) : Prop := (∀ q, q = 0 ∨ (20 ≤ q ∧ q < 39) ∨ 66 ≤ q → I' q = I q) ∧ ∀ q, q ≠ 60 → J' q = J q
def y_fD (I I' : Nat → Nat → Int32) (J J' : Nat → Nat → Int64) : Prop := (∀ q, q < 92 ∨ 105 ≤ q → q ≠ 108 → q ≠ 109 → I' q = I q) ∧ (∀ j, (14 ≤ j ∧ j < 28) ∨ 38 ≤ j → I' 92 j = I 92 j) ∧ ∀ q, q ≠ 92 → J' q = J q
theorem y_fC_r (I : Nat → Nat → Int32) (J : Nat → Nat → Int64) : y_fC I I J J := ⟨fun _ _ => rfl, fun _ _ => rfl⟩
theorem y_fD_r (I : Nat → Nat → Int32) (J : Nat → Nat → Int64) : y_fD I I J J := ⟨fun _ _ _ _ => rfl, fun _ _ => rfl, fun _ _ => rfl⟩
theorem y_fC_t {I I' I'' : Nat → Nat → Int32} {J J' J'' : Nat → Nat → Int64} (h : y_fC I I' J J') (h' : y_fC I' I'' J' J'') : y_fC I I'' J J'' := ⟨fun q hq => (h'.1 q hq).trans (h.1 q hq), fun q hq => (h'.2 q hq).trans (h.2 q hq)⟩
theorem y_fD_t {I I' I'' : Nat → Nat → Int32} {J J' J'' : Nat → Nat → Int64} (h : y_fD I I' J J') (h' : y_fD I' I'' J' J'') : y_fD I I'' J J'' := ⟨fun q h1 h2 h3 => (h'.1 q h1 h2 h3).trans (h.1 q h1 h2 h3), fun j hj => (h'.2.1 j hj).trans (h.2.1 j hj), fun q hq => (h'.2.2 q hq).trans (h.2.2 q hq)⟩
def y_C (d q : Nat) (as : List Value) (S : y_S) (v : Int32) (S' : y_S) : Prop := ∀ I J, y_ZC S I → ∃ I' J', zC d q (.ref 0 :: as) (xz_SH, I, J) = some (some (.int v), (xz_SH, I', J')) ∧ y_ZC S' I' ∧ y_fC I I' J J'
def y_D (d q : Nat) (as : List Value) (S : y_S) (v : Int32) (S' : y_S) : Prop := ∀ I J, y_ZD S I → ∃ I' J', zC d q (.ref 92 :: as) (xz_SH, I, J) = some (some (.int v), (xz_SH, I', J')) ∧ y_ZD S' I' ∧ y_fD I I' J J'
def y_B (q q' : Nat) (as : List Value) (S : y_S) (v : Int32) (S' : y_S) : Prop := (∀ d, y_C (d + 30) q as S v S') ∧ ∀ d, y_D (d + 30) q' as S v S'
theorem y_simS {q q' : Nat} {as : List Value} (h : ∀ S, y_okM S → y_okX S → ∃ v S', y_B q q' as S v S') : zSI zR q q' as := by
  rintro M ⟨S, I, J, rfl, z1, ⟨z2, z3⟩, ⟨z4, z5⟩, z6, z7, z8, z9⟩
  obtain ⟨v, S', h1, h2⟩ := h S z1.1 z1.2
  obtain ⟨I1, J1, f1, ⟨f2, f3, f4, f5, f6⟩, f7, f8⟩ := h1 30 I J ⟨z1.1, z1.2, z2, z3, z9⟩
  obtain ⟨I2, J2, g1, ⟨g2, g3, g4, g5⟩, g7, g8, g9⟩ := h2 30 I1 J1 ⟨z1.1, z1.2, y_vR_of (fun q _ _ => f7 q (by omega)) (fun j _ => by rw [f7 92 (by omega)]) z4, y_vY_of (fun q _ _ => f7 q (by omega)) (fun j _ _ => by rw [f7 92 (by omega)]) z5⟩
  refine ⟨v, _, _, f1, rfl, g1, S', I2, J2, rfl, ⟨f2, f3⟩, ⟨y_vM_of (fun q _ _ => g7 q (by omega) (by omega) (by omega)) f4, y_vX_of (fun q _ _ => g7 q (by omega) (by omega) (by omega)) f5⟩, ⟨g4, g5⟩, ?_, ?_, ?_, ?_⟩
  · refine y_kept_of (fun q hq => ?_) ?_ ?_ z6
    · rw [g7 q (by omega) (by omega) (by omega), f7 q (by omega)]
    · rw [g7 0 (by omega) (by omega) (by omega), f7 0 (by omega)]
    · rw [g8 42 (by omega), f7 92 (by omega)]
  · refine y_text_of ?_ ?_ ?_ ?_ z7
    · rw [g7 66 (by omega) (by omega) (by omega), f7 66 (by omega)]
    · rw [g8 22 (by omega), f7 92 (by omega)]
    · rw [g7 67 (by omega) (by omega) (by omega), f7 67 (by omega)]
    · rw [g7 105 (by omega) (by omega) (by omega), f7 105 (by omega)]
  · refine y_tape_of (fun q hq => ?_) (fun q hq => ?_) z8
    · rw [g7 q (by omega) (by omega) (by omega), f7 q (by omega)]
    · rw [g9 q (by omega), f8 q (by omega)]
  · refine y_cst_of ?_ ?_ ?_ f6
    · rw [g7 8 (by omega) (by omega) (by omega)]
    · rw [g7 12 (by omega) (by omega) (by omega)]
    · rw [g7 16 (by omega) (by omega) (by omega)]
/-- refused: nothing changes -/
theorem y_B_no {q q' : Nat} {as : List Value} {S : y_S} {v : Int32} (h1 : ∀ d I J, y_ZC S I → zC (d + 30) q (.ref 0 :: as) (xz_SH, I, J) = some (some (.int v), (xz_SH, I, J))) (h2 : ∀ d I J, y_ZD S I → zC (d + 30) q' (.ref 92 :: as) (xz_SH, I, J) = some (some (.int v), (xz_SH, I, J))) : y_B q q' as S v S := ⟨fun d I J hZ => ⟨I, J, h1 d I J hZ, hZ, y_fC_r I J⟩, fun d I J hZ => ⟨I, J, h2 d I J hZ, hZ, y_fD_r I J⟩⟩
/-! people -/
def y_pp (S : y_S) (n : Nat) : y_S := y_ps (y_ps (y_ps (y_ps (y_ps (y_ps (y_ps (y_ps S 0 0 n) 0 2 0) 0 3 1) 0 4 0) 1 0 0) 7 0 0) 11 0 0) 15 0 0
theorem y_Ro_clear (d : Nat) (I : Nat → Nat → Int32) (J : Nat → Nat → Int64) : zC (d + 1) q_Ro_clear [.ref 8] (xz_SH, I, J) = some (some (.int 0), (xz_SH, xz_up I 8 0 0, J)) ∧ zC (d + 1) q_Ro_clear [.ref 12] (xz_SH, I, J) = some (some (.int 0), (xz_SH, xz_up I 12 0 0, J)) ∧ zC (d + 1) q_Ro_clear [.ref 16] (xz_SH, I, J) = some (some (.int 0), (xz_SH, xz_up I 16 0 0, J)) := by
  refine ⟨?_, ?_, ?_⟩
  · refine b_Ro_clear _ _ _ _ ?_
    simp (maxSteps := 1000000) (disch := omega) only [sh_is0, sh_gI0, sh_wI0, sh_wZ0, sh_gR0, sh_gR1, sh_gR2, sh_lI0, sh_lI1, sh_lI2, sh_sI0, sh_sI1, sh_sI2, sh_len0, sh_len1, sh_len2, sh_lZ0, sh_sZ0, sh_gJ0, sh_wJ0, sh_lR0, sh_lJ0, sh_sJ0, y_eo, y_eb, y_eI, y_eJ, y_eR, y_eV, y_in, nI_clamp, cond_true, y_eqI, y_ltI, y_leI, y_lit, nI_toInt, if_true, if_false, if_pos, if_neg, y_bIt, y_bIf, y_band, y_up_e]
  · refine b_Ro_clear _ _ _ _ ?_
    simp (maxSteps := 1000000) (disch := omega) only [sh_is0, sh_gI0, sh_wI0, sh_wZ0, sh_gR0, sh_gR1, sh_gR2, sh_lI0, sh_lI1, sh_lI2, sh_sI0, sh_sI1, sh_sI2, sh_len0, sh_len1, sh_len2, sh_lZ0, sh_sZ0, sh_gJ0, sh_wJ0, sh_lR0, sh_lJ0, sh_sJ0, y_eo, y_eb, y_eI, y_eJ, y_eR, y_eV, y_in, nI_clamp, cond_true, y_eqI, y_ltI, y_leI, y_lit, nI_toInt, if_true, if_false, if_pos, if_neg, y_bIt, y_bIf, y_band, y_up_e]
  · refine b_Ro_clear _ _ _ _ ?_
    simp (maxSteps := 1000000) (disch := omega) only [sh_is0, sh_gI0, sh_wI0, sh_wZ0, sh_gR0, sh_gR1, sh_gR2, sh_lI0, sh_lI1, sh_lI2, sh_sI0, sh_sI1, sh_sI2, sh_len0, sh_len1, sh_len2, sh_lZ0, sh_sZ0, sh_gJ0, sh_wJ0, sh_lR0, sh_lJ0, sh_sJ0, y_eo, y_eb, y_eI, y_eJ, y_eR, y_eV, y_in, nI_clamp, cond_true, y_eqI, y_ltI, y_leI, y_lit, nI_toInt, if_true, if_false, if_pos, if_neg, y_bIt, y_bIf, y_band, y_up_e]
theorem y_pp_ok {S : y_S} (hok : y_okM S) {n : Nat} (h : 2 ≤ n ∧ n ≤ 6) : y_okM (y_pp S n) ∧ y_okX (y_pp S n) := by
  obtain ⟨k1, k2, k3, k4, k5, k6, k7, k8⟩ := hok
  unfold y_okM y_okX y_pp
  simp (disch := omega) only [y_ps_e, y_ps_n]
  refine ⟨⟨h.1, h.2, k3, by omega, by omega, by omega, by omega, fun m hm => by omega⟩, ⟨by omega, fun r hr => by omega⟩, ⟨by omega, fun r hr => by omega⟩, ⟨by omega, fun r hr => by omega⟩⟩
theorem y_o_people (S : y_S) (hok : y_okM S) (x : Int32) : ∃ v S', y_B q_HR_people q_Mo_people [.int x] S v S' := by
  cases h : y_rg x 2 6 with
  | false =>
    have h' := y_rgf.mp h
    refine ⟨-2, S, y_B_no (fun d I J hZ => ?_) (fun d I J hZ => ?_)⟩
    · refine b_HR_people _ _ _ _ _ ?_
      by_cases e : x.toInt < 2 <;> simp (maxSteps := 1000000) (disch := omega) only [sh_is0, sh_gI0, sh_wI0, sh_wZ0, sh_gR0, sh_gR1, sh_gR2, sh_lI0, sh_lI1, sh_lI2, sh_sI0, sh_sI1, sh_sI2, sh_len0, sh_len1, sh_len2, sh_lZ0, sh_sZ0, sh_gJ0, sh_wJ0, sh_lR0, sh_lJ0, sh_sJ0, y_eo, y_eb, y_eI, y_eJ, y_eR, y_eV, y_in, nI_clamp, cond_true, y_eqI, y_ltI, y_leI, y_lit, nI_toInt, if_true, if_false, if_pos, if_neg, y_bIt, y_bIf, y_band]
    · refine b_Mo_people _ _ _ _ _ ?_
      simp (maxSteps := 1000000) (disch := omega) only [sh_is0, sh_gI0, sh_wI0, sh_wZ0, sh_gR0, sh_gR1, sh_gR2, sh_lI0, sh_lI1, sh_lI2, sh_sI0, sh_sI1, sh_sI2, sh_len0, sh_len1, sh_len2, sh_lZ0, sh_sZ0, sh_gJ0, sh_wJ0, sh_lR0, sh_lJ0, sh_sJ0, y_eo, y_eb, y_eI, y_eJ, y_eR, y_eV, y_in, nI_clamp, cond_true, y_eqI, y_ltI, y_leI, y_lit, nI_toInt, if_true, if_false, if_pos, if_neg, y_bIt, y_bIf, y_band, y_Mo_inI _ x 2 6 (l := 2) (h := 6) (by decide) (by decide), h]
  | true =>
    have h' := y_rgt.mp h
    obtain ⟨n, hn, rfl, hx⟩ := y_of x (by omega)
    have ho := y_pp_ok hok (n := n) (by omega)
    refine ⟨nI (S 0 0), y_pp S n, fun d I J hZ => ?_, fun d I J hZ => ?_⟩
    · obtain ⟨z1, z2, ⟨⟨c0, c1, c2, c3, c4⟩, z3, z4⟩, ⟨z5, z6, z7⟩, z8⟩ := hZ
      refine ⟨xz_up (xz_up (xz_up (xz_up (xz_up (xz_up (xz_up (xz_up I 1 0 (nI n)) 1 2 0) 1 3 1) 1 4 0) 2 0 0) 8 0 0) 12 0 0) 16 0 0, J, ?_, ⟨ho.1, ho.2, ⟨⟨?_, ?_, ?_, ?_, ?_⟩, ?_, fun m hm => ?_⟩, ⟨⟨?_, fun r hr => ?_⟩, ⟨?_, fun r hr => ?_⟩, ⟨?_, fun r hr => ?_⟩⟩, y_cst_of ?_ ?_ ?_ z8⟩, fun q hq => ?_, fun _ _ => rfl⟩
      · have hs : zC (d + 29) q_Se_startAnew [.ref 1, .int (nI n)] (xz_SH, I, J) = some (none, (xz_SH, xz_up (xz_up (xz_up (xz_up (xz_up (xz_up (xz_up (xz_up I 1 0 (nI n)) 1 2 0) 1 3 1) 1 4 0) 2 0 0) 8 0 0) 12 0 0) 16 0 0, J)) := by
          refine b_Se_startAnew _ _ _ _ _ ?_
          simp (maxSteps := 1000000) (disch := omega) only [sh_is0, sh_gI0, sh_wI0, sh_wZ0, sh_gR0, sh_gR1, sh_gR2, sh_lI0, sh_lI1, sh_lI2, sh_sI0, sh_sI1, sh_sI2, sh_len0, sh_len1, sh_len2, sh_lZ0, sh_sZ0, sh_gJ0, sh_wJ0, sh_lR0, sh_lJ0, sh_sJ0, y_eo, y_eb, (y_Ro_clear (d + 27) _ _).1, (y_Ro_clear (d + 27) _ _).2.1, (y_Ro_clear (d + 27) _ _).2.2, y_eI]
        refine b_HR_people _ _ _ _ _ ?_
        simp (maxSteps := 1000000) (disch := omega) only [sh_is0, sh_gI0, sh_wI0, sh_wZ0, sh_gR0, sh_gR1, sh_gR2, sh_lI0, sh_lI1, sh_lI2, sh_sI0, sh_sI1, sh_sI2, sh_len0, sh_len1, sh_len2, sh_lZ0, sh_sZ0, sh_gJ0, sh_wJ0, sh_lR0, sh_lJ0, sh_sJ0, y_eo, y_eb, y_eI, y_eJ, y_eR, y_eV, y_in, nI_clamp, cond_true, y_eqI, y_ltI, y_leI, y_lit, nI_toInt, if_true, if_false, if_pos, if_neg, y_bIt, y_bIf, y_band, c0, hs]
      · unfold y_pp; simp (disch := omega) only [y_up_e, y_up_n, y_ps_e, y_ps_n]
      · unfold y_pp; simp (disch := omega) only [y_up_e, y_up_n, y_ps_e, y_ps_n, c1]
      · unfold y_pp; simp (disch := omega) only [y_up_e, y_up_n, y_ps_e, y_ps_n]; rfl
      · unfold y_pp; simp (disch := omega) only [y_up_e, y_up_n, y_ps_e, y_ps_n]; rfl
      · unfold y_pp; simp (disch := omega) only [y_up_e, y_up_n, y_ps_e, y_ps_n]; rfl
      · unfold y_pp; simp (disch := omega) only [y_up_e, y_up_n, y_ps_e, y_ps_n]; rfl
      · unfold y_pp at hm; simp (disch := omega) only [y_ps_e, y_ps_n] at hm; omega
      · unfold y_pp; simp (disch := omega) only [y_up_e, y_up_n, y_ps_e, y_ps_n]; rfl
      · unfold y_pp at hr; simp (disch := omega) only [y_ps_e, y_ps_n] at hr; omega
      · unfold y_pp; simp (disch := omega) only [y_up_e, y_up_n, y_ps_e, y_ps_n]; rfl
      · unfold y_pp at hr; simp (disch := omega) only [y_ps_e, y_ps_n] at hr; omega
      · unfold y_pp; simp (disch := omega) only [y_up_e, y_up_n, y_ps_e, y_ps_n]; rfl
      · unfold y_pp at hr; simp (disch := omega) only [y_ps_e, y_ps_n] at hr; omega
      · simp (disch := omega) only [y_up_n]
      · simp (disch := omega) only [y_up_n]
      · simp (disch := omega) only [y_up_n]
      · simp (disch := omega) only [y_up_r]
    · obtain ⟨z1, z2, ⟨⟨c0, c1, c2, c3, c4⟩, z3, z4⟩, ⟨z5, z6, z7⟩⟩ := hZ
      refine ⟨xz_up (xz_up (xz_up (xz_up (xz_up (xz_up (xz_up (xz_up I 92 0 (nI n)) 92 1 0) 92 8 0) 92 9 1) 92 10 0) 92 11 0) 92 12 0) 92 13 0, J, ?_, ⟨ho.1, ho.2, ⟨⟨?_, ?_, ?_, ?_, ?_⟩, ?_, fun m hm => ?_⟩, ⟨⟨?_, fun r hr => ?_⟩, ⟨?_, fun r hr => ?_⟩, ⟨?_, fun r hr => ?_⟩⟩⟩, fun q hq _ _ => ?_, fun j hj => ?_, fun _ _ => rfl⟩
      · refine b_Mo_people _ _ _ _ _ ?_
        simp (maxSteps := 1000000) (disch := omega) only [sh_is0, sh_gI0, sh_wI0, sh_wZ0, sh_gR0, sh_gR1, sh_gR2, sh_lI0, sh_lI1, sh_lI2, sh_sI0, sh_sI1, sh_sI2, sh_len0, sh_len1, sh_len2, sh_lZ0, sh_sZ0, sh_gJ0, sh_wJ0, sh_lR0, sh_lJ0, sh_sJ0, y_eo, y_eb, y_eI, y_eJ, y_eR, y_eV, y_in, nI_clamp, cond_true, y_eqI, y_ltI, y_leI, y_lit, nI_toInt, if_true, if_false, if_pos, if_neg, y_bIt, y_bIf, y_band, y_Mo_inI _ _ 2 6 (l := 2) (h := 6) (by decide) (by decide), h, c0]
      · unfold y_pp; simp (disch := omega) only [y_up_e, y_up_n, y_ps_e, y_ps_n]
      · unfold y_pp; simp (disch := omega) only [y_up_e, y_up_n, y_ps_e, y_ps_n, c1]
      · unfold y_pp; simp (disch := omega) only [y_up_e, y_up_n, y_ps_e, y_ps_n]; rfl
      · unfold y_pp; simp (disch := omega) only [y_up_e, y_up_n, y_ps_e, y_ps_n]; rfl
      · unfold y_pp; simp (disch := omega) only [y_up_e, y_up_n, y_ps_e, y_ps_n]; rfl
      · unfold y_pp; simp (disch := omega) only [y_up_e, y_up_n, y_ps_e, y_ps_n]; rfl
      · unfold y_pp at hm; simp (disch := omega) only [y_ps_e, y_ps_n] at hm; omega
      · unfold y_pp; simp (disch := omega) only [y_up_e, y_up_n, y_ps_e, y_ps_n]; rfl
      · unfold y_pp at hr; simp (disch := omega) only [y_ps_e, y_ps_n] at hr; omega
      · unfold y_pp; simp (disch := omega) only [y_up_e, y_up_n, y_ps_e, y_ps_n]; rfl
      · unfold y_pp at hr; simp (disch := omega) only [y_ps_e, y_ps_n] at hr; omega
      · unfold y_pp; simp (disch := omega) only [y_up_e, y_up_n, y_ps_e, y_ps_n]; rfl
      · unfold y_pp at hr; simp (disch := omega) only [y_ps_e, y_ps_n] at hr; omega
      · simp (disch := omega) only [y_up_r]
      · simp (disch := omega) only [y_up_n]
/-! delay -/
theorem y_o_delay (S : y_S) (hok : y_okM S) (x : Int32) : ∃ v S', y_B q_HR_delay q_Mo_delay [.int x] S v S' := by
  cases h : y_rg x 0 9 with
  | false =>
    refine ⟨-2, S, y_B_no (fun d I J hZ => ?_) (fun d I J hZ => ?_)⟩
    · refine b_HR_delay _ _ _ _ _ ?_
      simp (maxSteps := 1000000) (disch := omega) only [sh_is0, sh_gI0, sh_wI0, sh_wZ0, sh_gR0, sh_gR1, sh_gR2, sh_lI0, sh_lI1, sh_lI2, sh_sI0, sh_sI1, sh_sI2, sh_len0, sh_len1, sh_len2, sh_lZ0, sh_sZ0, sh_gJ0, sh_wJ0, sh_lR0, sh_lJ0, sh_sJ0, y_eo, y_eb, y_eI, y_eJ, y_eR, y_eV, y_in, nI_clamp, cond_true, y_eqI, y_ltI, y_leI, y_lit, nI_toInt, if_true, if_false, if_pos, if_neg, y_bIt, y_bIf, y_band, y_HR_isDelay, h]
    · refine b_Mo_delay _ _ _ _ _ ?_
      simp (maxSteps := 1000000) (disch := omega) only [sh_is0, sh_gI0, sh_wI0, sh_wZ0, sh_gR0, sh_gR1, sh_gR2, sh_lI0, sh_lI1, sh_lI2, sh_sI0, sh_sI1, sh_sI2, sh_len0, sh_len1, sh_len2, sh_lZ0, sh_sZ0, sh_gJ0, sh_wJ0, sh_lR0, sh_lJ0, sh_sJ0, y_eo, y_eb, y_eI, y_eJ, y_eR, y_eV, y_in, nI_clamp, cond_true, y_eqI, y_ltI, y_leI, y_lit, nI_toInt, if_true, if_false, if_pos, if_neg, y_bIt, y_bIf, y_band, y_Mo_inI _ x 0 9 (l := 0) (h := 9) (by decide) (by decide), h]
  | true =>
    have h' := y_rgt.mp h
    obtain ⟨n, hn, rfl, hx⟩ := y_of x (by omega)
    have ho : y_okM (y_ps S 0 1 n) := by
      obtain ⟨k1, k2, k3, k4, k5, k6, k7, k8⟩ := hok
      unfold y_okM
      simp (disch := omega) only [y_ps_e, y_ps_n]
      exact ⟨k1, k2, by omega, k4, k5, k6, k7, k8⟩
    refine ⟨nI (S 0 1), y_ps S 0 1 n, fun d I J hZ => ?_, fun d I J hZ => ?_⟩
    · obtain ⟨z1, z2, ⟨⟨c0, c1, c2, c3, c4⟩, z3, z4⟩, z5, z8⟩ := hZ
      refine ⟨xz_up I 1 1 (nI n), J, ?_, ⟨ho, ?_, ⟨⟨?_, ?_, ?_, ?_, ?_⟩, ?_, fun m hm => ?_⟩, ?_, y_cst_of ?_ ?_ ?_ z8⟩, fun q hq => ?_, fun _ _ => rfl⟩
      · refine b_HR_delay _ _ _ _ _ ?_
        simp (maxSteps := 1000000) (disch := omega) only [sh_is0, sh_gI0, sh_wI0, sh_wZ0, sh_gR0, sh_gR1, sh_gR2, sh_lI0, sh_lI1, sh_lI2, sh_sI0, sh_sI1, sh_sI2, sh_len0, sh_len1, sh_len2, sh_lZ0, sh_sZ0, sh_gJ0, sh_wJ0, sh_lR0, sh_lJ0, sh_sJ0, y_eo, y_eb, y_eI, y_eJ, y_eR, y_eV, y_in, nI_clamp, cond_true, y_eqI, y_ltI, y_leI, y_lit, nI_toInt, if_true, if_false, if_pos, if_neg, y_bIt, y_bIf, y_band, y_HR_isDelay, h, c1]
      · unfold y_okX at z2 ⊢
        simp (disch := omega) only [y_ps_n]
        exact z2
      · simp (disch := omega) only [y_up_e, y_up_n, y_ps_e, y_ps_n, c0]
      · simp (disch := omega) only [y_up_e, y_up_n, y_ps_e, y_ps_n]
      · simp (disch := omega) only [y_up_e, y_up_n, y_ps_e, y_ps_n, c2]
      · simp (disch := omega) only [y_up_e, y_up_n, y_ps_e, y_ps_n, c3]
      · simp (disch := omega) only [y_up_e, y_up_n, y_ps_e, y_ps_n, c4]
      · simp (disch := omega) only [y_up_e, y_up_n, y_ps_e, y_ps_n, z3]
      · simp (disch := omega) only [y_ps_n] at hm
        simp (disch := omega) only [y_up_r, y_ps_n]
        exact z4 m hm
      · unfold y_vX at z5 ⊢
        simp (disch := omega) only [y_ps_n, y_up_r]
        exact z5
      · simp (disch := omega) only [y_up_n]
      · simp (disch := omega) only [y_up_n]
      · simp (disch := omega) only [y_up_n]
      · simp (disch := omega) only [y_up_r]
    · obtain ⟨z1, z2, ⟨⟨c0, c1, c2, c3, c4⟩, z3, z4⟩, z5⟩ := hZ
      refine ⟨xz_up I 92 7 (nI n), J, ?_, ⟨ho, ?_, ⟨⟨?_, ?_, ?_, ?_, ?_⟩, ?_, fun m hm => ?_⟩, ?_⟩, fun q hq _ _ => ?_, fun j hj => ?_, fun _ _ => rfl⟩
      · refine b_Mo_delay _ _ _ _ _ ?_
        simp (maxSteps := 1000000) (disch := omega) only [sh_is0, sh_gI0, sh_wI0, sh_wZ0, sh_gR0, sh_gR1, sh_gR2, sh_lI0, sh_lI1, sh_lI2, sh_sI0, sh_sI1, sh_sI2, sh_len0, sh_len1, sh_len2, sh_lZ0, sh_sZ0, sh_gJ0, sh_wJ0, sh_lR0, sh_lJ0, sh_sJ0, y_eo, y_eb, y_eI, y_eJ, y_eR, y_eV, y_in, nI_clamp, cond_true, y_eqI, y_ltI, y_leI, y_lit, nI_toInt, if_true, if_false, if_pos, if_neg, y_bIt, y_bIf, y_band, y_Mo_inI _ _ 0 9 (l := 0) (h := 9) (by decide) (by decide), h, c1]
      · unfold y_okX at z2 ⊢
        simp (disch := omega) only [y_ps_n]
        exact z2
      · simp (disch := omega) only [y_up_e, y_up_n, y_ps_e, y_ps_n, c0]
      · simp (disch := omega) only [y_up_e, y_up_n, y_ps_e, y_ps_n]
      · simp (disch := omega) only [y_up_e, y_up_n, y_ps_e, y_ps_n, c2]
      · simp (disch := omega) only [y_up_e, y_up_n, y_ps_e, y_ps_n, c3]
      · simp (disch := omega) only [y_up_e, y_up_n, y_ps_e, y_ps_n, c4]
      · simp (disch := omega) only [y_up_e, y_up_n, y_ps_e, y_ps_n, z3]
      · simp (disch := omega) only [y_ps_n] at hm
        simp (disch := omega) only [y_up_r, y_ps_n]
        exact z4 m hm
      · unfold y_vY at z5 ⊢
        simp (disch := omega) only [y_ps_n, y_up_r, y_up_n]
        exact z5
      · simp (disch := omega) only [y_up_r]
      · simp (disch := omega) only [y_up_n]
