/-! meet, ask, drop, renew, meeting, between -/
def y_mt (S : y_S) (t i j u : Nat) : y_S := y_ps (y_ps (y_ps (y_ps (y_ps (y_ps S 2 (S 1 0) t) 3 (S 1 0) i) 4 (S 1 0) j) 5 (S 1 0) u) 6 (S 1 0) 0) 1 0 (S 1 0 + 1)
theorem y_mt_ok {S : y_S} (hok : y_okM S) (hox : y_okX S) {t i j u : Nat} (ht : t ≤ 99) (hi : i < S 0 0) (hj : j < S 0 0) (hij : i ≠ j) (hu : 1 ≤ u ∧ u ≤ 100) (hc : S 1 0 < 14) : y_okM (y_mt S t i j u) ∧ y_okX (y_mt S t i j u) := by
  obtain ⟨k1, k2, k3, k4, k5, k6, k7, k8⟩ := hok
  unfold y_okM y_okX y_mt
  refine ⟨?_, ?_⟩
  · simp (maxSteps := 1000000) (disch := omega) only [y_up_e, y_up_n, y_ps_e, y_ps_n]
    refine ⟨k1, k2, k3, k4, k5, k6, by omega, fun m hm => ?_⟩
    by_cases e : m = S 1 0
    · subst e
      simp (maxSteps := 1000000) (disch := omega) only [y_up_e, y_up_n, y_ps_e, y_ps_n]
      exact ⟨ht, hi, hj, hij, hu.1, hu.2, by omega⟩
    · simp (maxSteps := 1000000) (disch := omega) only [y_up_e, y_up_n, y_ps_e, y_ps_n]
      exact k8 m (by omega)
  · unfold y_okX at hox
    simp (maxSteps := 1000000) (disch := omega) only [y_up_e, y_up_n, y_ps_e, y_ps_n]
    obtain ⟨a1, ⟨a2, a3⟩, a4⟩ := hox
    refine ⟨a1, ⟨a2, fun r hr => ?_⟩, a4⟩
    have := a3 r hr
    omega
theorem y_Me_add (d : Nat) {I : Nat → Nat → Int32} (J : Nat → Nat → Int64) {c : Nat} (h : I 2 0 = nI c) (hc : c ≤ 14) (t i j u : Int32) : zC (d + 1) q_Me_add [.ref 2, .int t, .int i, .int j, .int u] (xz_SH, I, J) = if c < 14 then some (some (.int (nI c)), (xz_SH, xz_up (xz_up (xz_up (xz_up (xz_up (xz_up I 3 c t) 4 c i) 5 c j) 6 c u) 7 c 0) 2 0 (nI (c + 1)), J)) else some (some (.int (-4)), (xz_SH, I, J)) := by
  by_cases e : c < 14
  · rw [if_pos e]
    refine b_Me_add _ _ _ _ _ _ _ _ ?_
    simp (maxSteps := 1000000) (disch := omega) only [sh_is0, sh_gI0, sh_wI0, sh_wZ0, sh_gR0, sh_gR1, sh_gR2, sh_lI0, sh_lI1, sh_lI2, sh_sI0, sh_sI1, sh_sI2, sh_len0, sh_len1, sh_len2, sh_lZ0, sh_sZ0, sh_gJ0, sh_wJ0, sh_lR0, sh_lJ0, sh_sJ0, y_eo, y_eb, y_eI, y_eJ, y_eR, y_eV, y_in, nI_clamp, cond_true, y_eqI, y_ltI, y_leI, y_lit, nI_toInt, if_true, if_false, if_pos, if_neg, y_bIt, y_bIf, y_band, h, y_up_n, y_up_e, y_an0, y_1, y_m1, Nat.add_sub_cancel]
  · rw [if_neg e]
    refine b_Me_add _ _ _ _ _ _ _ _ ?_
    simp (maxSteps := 1000000) (disch := omega) only [sh_is0, sh_gI0, sh_wI0, sh_wZ0, sh_gR0, sh_gR1, sh_gR2, sh_lI0, sh_lI1, sh_lI2, sh_sI0, sh_sI1, sh_sI2, sh_len0, sh_len1, sh_len2, sh_lZ0, sh_sZ0, sh_gJ0, sh_wJ0, sh_lR0, sh_lJ0, sh_sJ0, y_eo, y_eb, y_eI, y_eJ, y_eR, y_eV, y_in, nI_clamp, cond_true, y_eqI, y_ltI, y_leI, y_lit, nI_toInt, if_true, if_false, if_pos, if_neg, y_bIt, y_bIf, y_band, h]
theorem y_o_meet (S : y_S) (hok : y_okM S) (hox : y_okX S) (t i j u : Int32) : ∃ v S', y_B q_HR_meet q_Mo_meet [.int t, .int i, .int j, .int u] S v S' := by
  obtain ⟨k1, k2, k3, k4, k5, k6, k7, k8⟩ := id hok
  cases h : y_two S i j with
  | false =>
    refine ⟨-1, S, y_B_no (fun d I J hZ => ?_) (fun d I J hZ => ?_)⟩
    · refine b_HR_meet _ _ _ _ _ _ _ _ ?_
      simp (maxSteps := 1000000) (disch := omega) only [sh_is0, sh_gI0, sh_wI0, sh_wZ0, sh_gR0, sh_gR1, sh_gR2, sh_lI0, sh_lI1, sh_lI2, sh_sI0, sh_sI1, sh_sI2, sh_len0, sh_len1, sh_len2, sh_lZ0, sh_sZ0, sh_gJ0, sh_wJ0, sh_lR0, sh_lJ0, sh_sJ0, y_eo, y_eb, y_eI, y_eJ, y_eR, y_eV, y_in, nI_clamp, cond_true, y_eqI, y_ltI, y_leI, y_lit, nI_toInt, if_true, if_false, if_pos, if_neg, y_bIt, y_bIf, y_band, y_Se_isPair _ (Or.inl rfl) J hZ.2.2.1.1.1 k2, h]
    · refine b_Mo_meet _ _ _ _ _ _ _ _ ?_
      simp (maxSteps := 1000000) (disch := omega) only [sh_is0, sh_gI0, sh_wI0, sh_wZ0, sh_gR0, sh_gR1, sh_gR2, sh_lI0, sh_lI1, sh_lI2, sh_sI0, sh_sI1, sh_sI2, sh_len0, sh_len1, sh_len2, sh_lZ0, sh_sZ0, sh_gJ0, sh_wJ0, sh_lR0, sh_lJ0, sh_sJ0, y_eo, y_eb, y_eI, y_eJ, y_eR, y_eV, y_in, nI_clamp, cond_true, y_eqI, y_ltI, y_leI, y_lit, nI_toInt, if_true, if_false, if_pos, if_neg, y_bIt, y_bIf, y_band, y_Mo_areTwo _ J hZ.2.2.1.1.1 k1 k2, h]
  | true =>
    cases h2 : y_rg t 0 99 with
    | false =>
      refine ⟨-2, S, y_B_no (fun d I J hZ => ?_) (fun d I J hZ => ?_)⟩
      · refine b_HR_meet _ _ _ _ _ _ _ _ ?_
        simp (maxSteps := 1000000) (disch := omega) only [sh_is0, sh_gI0, sh_wI0, sh_wZ0, sh_gR0, sh_gR1, sh_gR2, sh_lI0, sh_lI1, sh_lI2, sh_sI0, sh_sI1, sh_sI2, sh_len0, sh_len1, sh_len2, sh_lZ0, sh_sZ0, sh_gJ0, sh_wJ0, sh_lR0, sh_lJ0, sh_sJ0, y_eo, y_eb, y_eI, y_eJ, y_eR, y_eV, y_in, nI_clamp, cond_true, y_eqI, y_ltI, y_leI, y_lit, nI_toInt, if_true, if_false, if_pos, if_neg, y_bIt, y_bIf, y_band, y_Se_isPair _ (Or.inl rfl) J hZ.2.2.1.1.1 k2, h, y_HR_isTime, h2]
      · refine b_Mo_meet _ _ _ _ _ _ _ _ ?_
        simp (maxSteps := 1000000) (disch := omega) only [sh_is0, sh_gI0, sh_wI0, sh_wZ0, sh_gR0, sh_gR1, sh_gR2, sh_lI0, sh_lI1, sh_lI2, sh_sI0, sh_sI1, sh_sI2, sh_len0, sh_len1, sh_len2, sh_lZ0, sh_sZ0, sh_gJ0, sh_wJ0, sh_lR0, sh_lJ0, sh_sJ0, y_eo, y_eb, y_eI, y_eJ, y_eR, y_eV, y_in, nI_clamp, cond_true, y_eqI, y_ltI, y_leI, y_lit, nI_toInt, if_true, if_false, if_pos, if_neg, y_bIt, y_bIf, y_band, y_Mo_areTwo _ J hZ.2.2.1.1.1 k1 k2, h, y_Mo_isTime, h2]
    | true =>
      cases h3 : y_rg u 1 100 with
      | false =>
        refine ⟨-2, S, y_B_no (fun d I J hZ => ?_) (fun d I J hZ => ?_)⟩
        · refine b_HR_meet _ _ _ _ _ _ _ _ ?_
          simp (maxSteps := 1000000) (disch := omega) only [sh_is0, sh_gI0, sh_wI0, sh_wZ0, sh_gR0, sh_gR1, sh_gR2, sh_lI0, sh_lI1, sh_lI2, sh_sI0, sh_sI1, sh_sI2, sh_len0, sh_len1, sh_len2, sh_lZ0, sh_sZ0, sh_gJ0, sh_wJ0, sh_lR0, sh_lJ0, sh_sJ0, y_eo, y_eb, y_eI, y_eJ, y_eR, y_eV, y_in, nI_clamp, cond_true, y_eqI, y_ltI, y_leI, y_lit, nI_toInt, if_true, if_false, if_pos, if_neg, y_bIt, y_bIf, y_band, y_Se_isPair _ (Or.inl rfl) J hZ.2.2.1.1.1 k2, h, y_HR_isTime, h2, y_HR_isSure, h3]
        · refine b_Mo_meet _ _ _ _ _ _ _ _ ?_
          simp (maxSteps := 1000000) (disch := omega) only [sh_is0, sh_gI0, sh_wI0, sh_wZ0, sh_gR0, sh_gR1, sh_gR2, sh_lI0, sh_lI1, sh_lI2, sh_sI0, sh_sI1, sh_sI2, sh_len0, sh_len1, sh_len2, sh_lZ0, sh_sZ0, sh_gJ0, sh_wJ0, sh_lR0, sh_lJ0, sh_sJ0, y_eo, y_eb, y_eI, y_eJ, y_eR, y_eV, y_in, nI_clamp, cond_true, y_eqI, y_ltI, y_leI, y_lit, nI_toInt, if_true, if_false, if_pos, if_neg, y_bIt, y_bIf, y_band, y_Mo_areTwo _ J hZ.2.2.1.1.1 k1 k2, h, y_Mo_isTime, h2, y_Mo_inI _ u 1 100 (l := 1) (h := 100) (by decide) (by decide), h3]
      | true =>
        by_cases hc : S 1 0 < 14
        · have t' := y_rgt.mp h2
          have u' := y_rgt.mp h3
          have hij : (0 ≤ i.toInt ∧ i.toInt ≤ (S 0 0 : Int) - 1) ∧ (0 ≤ j.toInt ∧ j.toInt ≤ (S 0 0 : Int) - 1) ∧ i.toInt ≠ j.toInt := by
            unfold y_two at h
            simp only [Bool.and_eq_true, decide_eq_true_eq, y_rgt] at h
            exact h
          obtain ⟨tn, _, rfl, htn⟩ := y_of t t'.1
          obtain ⟨un, _, rfl, hun⟩ := y_of u (by omega)
          obtain ⟨im, _, rfl, hin⟩ := y_of i hij.1.1
          obtain ⟨jn, _, rfl, hjn⟩ := y_of j hij.2.1.1
          have ho := y_mt_ok hok hox (t := tn) (i := im) (j := jn) (u := un) (by omega) (by omega) (by omega) (by omega) (by omega) hc
          refine ⟨nI (S 1 0), y_mt S tn im jn un, fun d I J hZ => ?_, fun d I J hZ => ?_⟩
          · obtain ⟨z1, z2, ⟨⟨c0, c1, c2, c3, c4⟩, z3, z4⟩, z5, z8⟩ := hZ
            have hA := y_Me_add (d + 28) (I := I) J (c := S 1 0) z3 (by omega) (nI tn) (nI im) (nI jn) (nI un)
            rw [if_pos hc] at hA
            refine ⟨xz_up (xz_up (xz_up (xz_up (xz_up (xz_up I 3 (S 1 0) (nI tn)) 4 (S 1 0) (nI im)) 5 (S 1 0) (nI jn)) 6 (S 1 0) (nI un)) 7 (S 1 0) 0) 2 0 (nI (S 1 0 + 1)), J, ?_, ⟨ho.1, ho.2, ⟨⟨?_, ?_, ?_, ?_, ?_⟩, ?_, fun m hm => ?_⟩, ?_, y_cst_of ?_ ?_ ?_ z8⟩, fun q hq => ?_, fun _ _ => rfl⟩
            · refine b_HR_meet _ _ _ _ _ _ _ _ ?_
              simp (maxSteps := 1000000) (disch := omega) only [sh_is0, sh_gI0, sh_wI0, sh_wZ0, sh_gR0, sh_gR1, sh_gR2, sh_lI0, sh_lI1, sh_lI2, sh_sI0, sh_sI1, sh_sI2, sh_len0, sh_len1, sh_len2, sh_lZ0, sh_sZ0, sh_gJ0, sh_wJ0, sh_lR0, sh_lJ0, sh_sJ0, y_eo, y_eb, y_eI, y_eJ, y_eR, y_eV, y_in, nI_clamp, cond_true, y_eqI, y_ltI, y_leI, y_lit, nI_toInt, if_true, if_false, if_pos, if_neg, y_bIt, y_bIf, y_band, y_Se_isPair _ (Or.inl rfl) J c0 k2, h, y_HR_isTime, h2, y_HR_isSure, h3, hA]
            · unfold y_mt; simp (maxSteps := 1000000) (disch := omega) only [y_up_e, y_up_n, y_ps_e, y_ps_n, c0]
            · unfold y_mt; simp (maxSteps := 1000000) (disch := omega) only [y_up_e, y_up_n, y_ps_e, y_ps_n, c1]
            · unfold y_mt; simp (maxSteps := 1000000) (disch := omega) only [y_up_e, y_up_n, y_ps_e, y_ps_n, c2]
            · unfold y_mt; simp (maxSteps := 1000000) (disch := omega) only [y_up_e, y_up_n, y_ps_e, y_ps_n, c3]
            · unfold y_mt; simp (maxSteps := 1000000) (disch := omega) only [y_up_e, y_up_n, y_ps_e, y_ps_n, c4]
            · unfold y_mt; simp (maxSteps := 1000000) (disch := omega) only [y_up_e, y_up_n, y_ps_e, y_ps_n]
            · unfold y_mt at hm ⊢
              simp (disch := omega) only [y_ps_e] at hm
              by_cases e : m = S 1 0
              · subst e
                simp (maxSteps := 1000000) (disch := omega) only [y_up_e, y_up_n, y_ps_e, y_ps_n, true_and]
                rfl
              · simp (maxSteps := 1000000) (disch := omega) only [y_up_e, y_up_n, y_ps_e, y_ps_n]
                exact z4 m (by omega)
            · unfold y_vX at z5 ⊢
              unfold y_mt
              simp (maxSteps := 1000000) (disch := omega) only [y_up_e, y_up_n, y_ps_e, y_ps_n, y_up_r]
              exact z5
            · simp (maxSteps := 1000000) (disch := omega) only [y_up_e, y_up_n, y_ps_e, y_ps_n]
            · simp (maxSteps := 1000000) (disch := omega) only [y_up_e, y_up_n, y_ps_e, y_ps_n]
            · simp (maxSteps := 1000000) (disch := omega) only [y_up_e, y_up_n, y_ps_e, y_ps_n]
            · simp (maxSteps := 1000000) (disch := omega) only [y_up_e, y_up_n, y_ps_e, y_ps_n, y_up_r]
          · obtain ⟨z1, z2, ⟨⟨c0, c1, c2, c3, c4⟩, z3, z4⟩, z5⟩ := hZ
            refine ⟨xz_up (xz_up (xz_up (xz_up (xz_up (xz_up I 93 (S 1 0) 1) 94 (S 1 0) (nI tn)) 95 (S 1 0) (nI im)) 96 (S 1 0) (nI jn)) 97 (S 1 0) (nI un)) 92 1 (nI (S 1 0 + 1)), J, ?_, ⟨ho.1, ho.2, ⟨⟨?_, ?_, ?_, ?_, ?_⟩, ?_, fun m hm => ?_⟩, ?_⟩, fun q hq _ _ => ?_, fun j hj => ?_, fun _ _ => rfl⟩
            · refine b_Mo_meet _ _ _ _ _ _ _ _ ?_
              simp (maxSteps := 1000000) (disch := omega) only [sh_is0, sh_gI0, sh_wI0, sh_wZ0, sh_gR0, sh_gR1, sh_gR2, sh_lI0, sh_lI1, sh_lI2, sh_sI0, sh_sI1, sh_sI2, sh_len0, sh_len1, sh_len2, sh_lZ0, sh_sZ0, sh_gJ0, sh_wJ0, sh_lR0, sh_lJ0, sh_sJ0, y_eo, y_eb, y_eI, y_eJ, y_eR, y_eV, y_in, nI_clamp, cond_true, y_eqI, y_ltI, y_leI, y_lit, nI_toInt, if_true, if_false, if_pos, if_neg, y_bIt, y_bIf, y_band, y_Mo_areTwo _ J c0 k1 k2, h, y_Mo_isTime, h2, y_Mo_inI _ (nI un) 1 100 (l := 1) (h := 100) (by decide) (by decide), h3, z3, y_up_n, y_up_e, y_an1, y_1, y_m1, Nat.add_sub_cancel]
            · unfold y_mt; simp (maxSteps := 1000000) (disch := omega) only [y_up_e, y_up_n, y_ps_e, y_ps_n, c0]
            · unfold y_mt; simp (maxSteps := 1000000) (disch := omega) only [y_up_e, y_up_n, y_ps_e, y_ps_n, c1]
            · unfold y_mt; simp (maxSteps := 1000000) (disch := omega) only [y_up_e, y_up_n, y_ps_e, y_ps_n, c2]
            · unfold y_mt; simp (maxSteps := 1000000) (disch := omega) only [y_up_e, y_up_n, y_ps_e, y_ps_n, c3]
            · unfold y_mt; simp (maxSteps := 1000000) (disch := omega) only [y_up_e, y_up_n, y_ps_e, y_ps_n, c4]
            · unfold y_mt; simp (maxSteps := 1000000) (disch := omega) only [y_up_e, y_up_n, y_ps_e, y_ps_n]
            · unfold y_mt at hm ⊢
              simp (disch := omega) only [y_ps_e] at hm
              by_cases e : m = S 1 0
              · subst e
                simp (maxSteps := 1000000) (disch := omega) only [y_up_e, y_up_n, y_ps_e, y_ps_n, true_and]
                rfl
              · simp (maxSteps := 1000000) (disch := omega) only [y_up_e, y_up_n, y_ps_e, y_ps_n]
                exact z4 m (by omega)
            · unfold y_vY at z5 ⊢
              unfold y_mt
              simp (maxSteps := 1000000) (disch := omega) only [y_up_e, y_up_n, y_ps_e, y_ps_n, y_up_r]
              exact z5
            · simp (maxSteps := 1000000) (disch := omega) only [y_up_e, y_up_n, y_ps_e, y_ps_n, y_up_r]
            · simp (maxSteps := 1000000) (disch := omega) only [y_up_e, y_up_n, y_ps_e, y_ps_n]
        · refine ⟨-4, S, y_B_no (fun d I J hZ => ?_) (fun d I J hZ => ?_)⟩
          · have hA := y_Me_add (d + 28) (I := I) J (c := S 1 0) hZ.2.2.1.2.1 (by omega) t i j u
            rw [if_neg hc] at hA
            refine b_HR_meet _ _ _ _ _ _ _ _ ?_
            simp (maxSteps := 1000000) (disch := omega) only [sh_is0, sh_gI0, sh_wI0, sh_wZ0, sh_gR0, sh_gR1, sh_gR2, sh_lI0, sh_lI1, sh_lI2, sh_sI0, sh_sI1, sh_sI2, sh_len0, sh_len1, sh_len2, sh_lZ0, sh_sZ0, sh_gJ0, sh_wJ0, sh_lR0, sh_lJ0, sh_sJ0, y_eo, y_eb, y_eI, y_eJ, y_eR, y_eV, y_in, nI_clamp, cond_true, y_eqI, y_ltI, y_leI, y_lit, nI_toInt, if_true, if_false, if_pos, if_neg, y_bIt, y_bIf, y_band, y_Se_isPair _ (Or.inl rfl) J hZ.2.2.1.1.1 k2, h, y_HR_isTime, h2, y_HR_isSure, h3, hA]
          · refine b_Mo_meet _ _ _ _ _ _ _ _ ?_
            simp (maxSteps := 1000000) (disch := omega) only [sh_is0, sh_gI0, sh_wI0, sh_wZ0, sh_gR0, sh_gR1, sh_gR2, sh_lI0, sh_lI1, sh_lI2, sh_sI0, sh_sI1, sh_sI2, sh_len0, sh_len1, sh_len2, sh_lZ0, sh_sZ0, sh_gJ0, sh_wJ0, sh_lR0, sh_lJ0, sh_sJ0, y_eo, y_eb, y_eI, y_eJ, y_eR, y_eV, y_in, nI_clamp, cond_true, y_eqI, y_ltI, y_leI, y_lit, nI_toInt, if_true, if_false, if_pos, if_neg, y_bIt, y_bIf, y_band, y_Mo_areTwo _ J hZ.2.2.1.1.1 k1 k2, h, y_Mo_isTime, h2, y_Mo_inI _ u 1 100 (l := 1) (h := 100) (by decide) (by decide), h3, hZ.2.2.1.2.1]
/-! ask -/
def y_ak (S : y_S) (f t s : Nat) : y_S := y_ps (y_ps (y_ps S 0 2 f) 0 3 t) 0 4 s
theorem y_o_ask (S : y_S) (hok : y_okM S) (hox : y_okX S) (f t s : Int32) : ∃ v S', y_B q_HR_ask q_Mo_ask [.int f, .int t, .int s] S v S' := by
  obtain ⟨k1, k2, k3, k4, k5, k6, k7, k8⟩ := id hok
  cases h : y_rg f 0 (S 0 0 - 1) with
  | false =>
    refine ⟨-1, S, y_B_no (fun d I J hZ => ?_) (fun d I J hZ => ?_)⟩
    · refine b_HR_ask _ _ _ _ _ _ _ ?_
      simp (maxSteps := 1000000) (disch := omega) only [sh_is0, sh_gI0, sh_wI0, sh_wZ0, sh_gR0, sh_gR1, sh_gR2, sh_lI0, sh_lI1, sh_lI2, sh_sI0, sh_sI1, sh_sI2, sh_len0, sh_len1, sh_len2, sh_lZ0, sh_sZ0, sh_gJ0, sh_wJ0, sh_lR0, sh_lJ0, sh_sJ0, y_eo, y_eb, y_eI, y_eJ, y_eR, y_eV, y_in, nI_clamp, cond_true, y_eqI, y_ltI, y_leI, y_lit, nI_toInt, if_true, if_false, if_pos, if_neg, y_bIt, y_bIf, y_band, y_Se_isPerson _ (Or.inl rfl) J hZ.2.2.1.1.1 k2, h]
    · refine b_Mo_ask _ _ _ _ _ _ _ ?_
      simp (maxSteps := 1000000) (disch := omega) only [sh_is0, sh_gI0, sh_wI0, sh_wZ0, sh_gR0, sh_gR1, sh_gR2, sh_lI0, sh_lI1, sh_lI2, sh_sI0, sh_sI1, sh_sI2, sh_len0, sh_len1, sh_len2, sh_lZ0, sh_sZ0, sh_gJ0, sh_wJ0, sh_lR0, sh_lJ0, sh_sJ0, y_eo, y_eb, y_eI, y_eJ, y_eR, y_eV, y_in, nI_clamp, cond_true, y_eqI, y_ltI, y_leI, y_lit, nI_toInt, if_true, if_false, if_pos, if_neg, y_bIt, y_bIf, y_band, y_Mo_isPerson _ J hZ.2.2.1.1.1 k1 k2, h]
  | true =>
    cases h2 : y_rg t 0 (S 0 0 - 1) with
    | false =>
      refine ⟨-1, S, y_B_no (fun d I J hZ => ?_) (fun d I J hZ => ?_)⟩
      · refine b_HR_ask _ _ _ _ _ _ _ ?_
        simp (maxSteps := 1000000) (disch := omega) only [sh_is0, sh_gI0, sh_wI0, sh_wZ0, sh_gR0, sh_gR1, sh_gR2, sh_lI0, sh_lI1, sh_lI2, sh_sI0, sh_sI1, sh_sI2, sh_len0, sh_len1, sh_len2, sh_lZ0, sh_sZ0, sh_gJ0, sh_wJ0, sh_lR0, sh_lJ0, sh_sJ0, y_eo, y_eb, y_eI, y_eJ, y_eR, y_eV, y_in, nI_clamp, cond_true, y_eqI, y_ltI, y_leI, y_lit, nI_toInt, if_true, if_false, if_pos, if_neg, y_bIt, y_bIf, y_band, y_Se_isPerson _ (Or.inl rfl) J hZ.2.2.1.1.1 k2, h, h2]
      · refine b_Mo_ask _ _ _ _ _ _ _ ?_
        simp (maxSteps := 1000000) (disch := omega) only [sh_is0, sh_gI0, sh_wI0, sh_wZ0, sh_gR0, sh_gR1, sh_gR2, sh_lI0, sh_lI1, sh_lI2, sh_sI0, sh_sI1, sh_sI2, sh_len0, sh_len1, sh_len2, sh_lZ0, sh_sZ0, sh_gJ0, sh_wJ0, sh_lR0, sh_lJ0, sh_sJ0, y_eo, y_eb, y_eI, y_eJ, y_eR, y_eV, y_in, nI_clamp, cond_true, y_eqI, y_ltI, y_leI, y_lit, nI_toInt, if_true, if_false, if_pos, if_neg, y_bIt, y_bIf, y_band, y_Mo_isPerson _ J hZ.2.2.1.1.1 k1 k2, h, h2]
    | true =>
      cases h3 : y_rg s 0 99 with
      | false =>
        refine ⟨-2, S, y_B_no (fun d I J hZ => ?_) (fun d I J hZ => ?_)⟩
        · refine b_HR_ask _ _ _ _ _ _ _ ?_
          simp (maxSteps := 1000000) (disch := omega) only [sh_is0, sh_gI0, sh_wI0, sh_wZ0, sh_gR0, sh_gR1, sh_gR2, sh_lI0, sh_lI1, sh_lI2, sh_sI0, sh_sI1, sh_sI2, sh_len0, sh_len1, sh_len2, sh_lZ0, sh_sZ0, sh_gJ0, sh_wJ0, sh_lR0, sh_lJ0, sh_sJ0, y_eo, y_eb, y_eI, y_eJ, y_eR, y_eV, y_in, nI_clamp, cond_true, y_eqI, y_ltI, y_leI, y_lit, nI_toInt, if_true, if_false, if_pos, if_neg, y_bIt, y_bIf, y_band, y_Se_isPerson _ (Or.inl rfl) J hZ.2.2.1.1.1 k2, h, h2, y_HR_isTime, h3]
        · refine b_Mo_ask _ _ _ _ _ _ _ ?_
          simp (maxSteps := 1000000) (disch := omega) only [sh_is0, sh_gI0, sh_wI0, sh_wZ0, sh_gR0, sh_gR1, sh_gR2, sh_lI0, sh_lI1, sh_lI2, sh_sI0, sh_sI1, sh_sI2, sh_len0, sh_len1, sh_len2, sh_lZ0, sh_sZ0, sh_gJ0, sh_wJ0, sh_lR0, sh_lJ0, sh_sJ0, y_eo, y_eb, y_eI, y_eJ, y_eR, y_eV, y_in, nI_clamp, cond_true, y_eqI, y_ltI, y_leI, y_lit, nI_toInt, if_true, if_false, if_pos, if_neg, y_bIt, y_bIf, y_band, y_Mo_isPerson _ J hZ.2.2.1.1.1 k1 k2, h, h2, y_Mo_isTime, h3]
      | true =>
        have f' := y_rgt.mp h
        have t' := y_rgt.mp h2
        have s' := y_rgt.mp h3
        obtain ⟨fn, _, rfl, hfn⟩ := y_of f f'.1
        obtain ⟨tn, _, rfl, htn⟩ := y_of t t'.1
        obtain ⟨sn, _, rfl, hsn⟩ := y_of s s'.1
        have ho : y_okM (y_ak S fn tn sn) ∧ y_okX (y_ak S fn tn sn) := by
          unfold y_okM y_okX y_ak
          unfold y_okX at hox
          simp (maxSteps := 1000000) (disch := omega) only [y_up_e, y_up_n, y_ps_e, y_ps_n]
          exact ⟨⟨k1, k2, k3, by omega, by omega, by omega, k7, k8⟩, hox⟩
        refine ⟨nI (y_all (y_ak S fn tn sn) 0).1, y_ak S fn tn sn, fun d I J hZ => ?_, fun d I J hZ => ?_⟩
        · obtain ⟨z1, z2, ⟨⟨c0, c1, c2, c3, c4⟩, z3, z4⟩, z5, z8⟩ := hZ
          have hM1 : y_vM 1 (y_ak S fn tn sn) (xz_up (xz_up (xz_up I 1 2 (nI fn)) 1 3 (nI tn)) 1 4 (nI sn)) := by
            refine ⟨⟨?_, ?_, ?_, ?_, ?_⟩, ?_, fun m hm => ?_⟩
            · unfold y_ak; simp (maxSteps := 1000000) (disch := omega) only [y_up_e, y_up_n, y_ps_e, y_ps_n, c0]
            · unfold y_ak; simp (maxSteps := 1000000) (disch := omega) only [y_up_e, y_up_n, y_ps_e, y_ps_n, c1]
            · unfold y_ak; simp (maxSteps := 1000000) (disch := omega) only [y_up_e, y_up_n, y_ps_e, y_ps_n]
            · unfold y_ak; simp (maxSteps := 1000000) (disch := omega) only [y_up_e, y_up_n, y_ps_e, y_ps_n]
            · unfold y_ak; simp (maxSteps := 1000000) (disch := omega) only [y_up_e, y_up_n, y_ps_e, y_ps_n]
            · unfold y_ak; simp (maxSteps := 1000000) (disch := omega) only [y_up_e, y_up_n, y_ps_e, y_ps_n, z3]
            · unfold y_ak at hm ⊢
              simp (disch := omega) only [y_ps_n] at hm
              simp (maxSteps := 1000000) (disch := omega) only [y_up_e, y_up_n, y_ps_e, y_ps_n]
              exact z4 m hm
          obtain ⟨I', J', g1, g2, g3⟩ := y_Wa_search (d + 19) (Or.inl rfl) ho.1 (rule := 0) (by decide) J hM1
          have g1' : zC (d + 29) q_Wa_search [.ref 60, .ref 1, .int (0 : Int32)] (xz_SH, xz_up (xz_up (xz_up I 1 2 (nI fn)) 1 3 (nI tn)) 1 4 (nI sn), J) = some (none, (xz_SH, I', J')) := g1
          refine ⟨I', J', ?_, ⟨ho.1, ho.2, y_vM_of (fun q _ _ => g3.1 q (by omega)) hM1, y_vX_of (fun q _ _ => g3.1 q (by omega)) ?_, y_cst_of ?_ ?_ ?_ z8⟩, fun q hq => ?_, fun q hq => g3.2 q hq⟩
          · refine b_HR_ask _ _ _ _ _ _ _ ?_
            simp (maxSteps := 1000000) (disch := omega) only [sh_is0, sh_gI0, sh_wI0, sh_wZ0, sh_gR0, sh_gR1, sh_gR2, sh_lI0, sh_lI1, sh_lI2, sh_sI0, sh_sI1, sh_sI2, sh_len0, sh_len1, sh_len2, sh_lZ0, sh_sZ0, sh_gJ0, sh_wJ0, sh_lR0, sh_lJ0, sh_sJ0, y_eo, y_eb, y_eI, y_eJ, y_eR, y_eV, y_in, nI_clamp, cond_true, y_eqI, y_ltI, y_leI, y_lit, nI_toInt, if_true, if_false, if_pos, if_neg, y_bIt, y_bIf, y_band, y_Se_isPerson _ (Or.inl rfl) J c0 k2, h, h2, y_HR_isTime, h3, g1', g2.2.1]
          · unfold y_vX at z5 ⊢
            unfold y_ak
            simp (maxSteps := 1000000) (disch := omega) only [y_up_e, y_up_n, y_ps_e, y_ps_n, y_up_r]
            exact z5
          · rw [g3.1 8 (by omega)]; simp (maxSteps := 1000000) (disch := omega) only [y_up_e, y_up_n, y_ps_e, y_ps_n]
          · rw [g3.1 12 (by omega)]; simp (maxSteps := 1000000) (disch := omega) only [y_up_e, y_up_n, y_ps_e, y_ps_n]
          · rw [g3.1 16 (by omega)]; simp (maxSteps := 1000000) (disch := omega) only [y_up_e, y_up_n, y_ps_e, y_ps_n]
          · rw [g3.1 q (by omega)]; simp (maxSteps := 1000000) (disch := omega) only [y_up_e, y_up_n, y_ps_e, y_ps_n, y_up_r]
        · obtain ⟨z1, z2, ⟨⟨c0, c1, c2, c3, c4⟩, z3, z4⟩, z5⟩ := hZ
          have hR1 : y_vR (y_ak S fn tn sn) (xz_up (xz_up (xz_up I 92 8 (nI fn)) 92 9 (nI tn)) 92 10 (nI sn)) := by
            refine ⟨⟨?_, ?_, ?_, ?_, ?_⟩, ?_, fun m hm => ?_⟩
            · unfold y_ak; simp (maxSteps := 1000000) (disch := omega) only [y_up_e, y_up_n, y_ps_e, y_ps_n, c0]
            · unfold y_ak; simp (maxSteps := 1000000) (disch := omega) only [y_up_e, y_up_n, y_ps_e, y_ps_n, c1]
            · unfold y_ak; simp (maxSteps := 1000000) (disch := omega) only [y_up_e, y_up_n, y_ps_e, y_ps_n]
            · unfold y_ak; simp (maxSteps := 1000000) (disch := omega) only [y_up_e, y_up_n, y_ps_e, y_ps_n]
            · unfold y_ak; simp (maxSteps := 1000000) (disch := omega) only [y_up_e, y_up_n, y_ps_e, y_ps_n]
            · unfold y_ak; simp (maxSteps := 1000000) (disch := omega) only [y_up_e, y_up_n, y_ps_e, y_ps_n, z3]
            · unfold y_ak at hm ⊢
              simp (disch := omega) only [y_ps_n] at hm
              simp (maxSteps := 1000000) (disch := omega) only [y_up_e, y_up_n, y_ps_e, y_ps_n]
              exact z4 m hm
          obtain ⟨I', J', g1, g2⟩ := y_Mo_ways (d + 17) ho.1 J hR1
          refine ⟨I', J', ?_, ⟨ho.1, ho.2, y_vR_ff g2 hR1, y_vY_of (fun q _ _ => g2.1 q (by omega) (by omega) (by omega)) (fun j _ _ => g2.2.1 j (by omega)) ?_⟩, fun q hq h1 h2 => ?_, fun j hj => ?_, g2.2.2⟩
          · refine b_Mo_ask _ _ _ _ _ _ _ ?_
            simp (maxSteps := 1000000) (disch := omega) only [sh_is0, sh_gI0, sh_wI0, sh_wZ0, sh_gR0, sh_gR1, sh_gR2, sh_lI0, sh_lI1, sh_lI2, sh_sI0, sh_sI1, sh_sI2, sh_len0, sh_len1, sh_len2, sh_lZ0, sh_sZ0, sh_gJ0, sh_wJ0, sh_lR0, sh_lJ0, sh_sJ0, y_eo, y_eb, y_eI, y_eJ, y_eR, y_eV, y_in, nI_clamp, cond_true, y_eqI, y_ltI, y_leI, y_lit, nI_toInt, if_true, if_false, if_pos, if_neg, y_bIt, y_bIf, y_band, y_Mo_isPerson _ J c0 k1 k2, h, h2, y_Mo_isTime, h3, g1]
          · unfold y_vY at z5 ⊢
            unfold y_ak
            simp (maxSteps := 1000000) (disch := omega) only [y_up_e, y_up_n, y_ps_e, y_ps_n, y_up_r]
            exact z5
          · rw [g2.1 q (by omega) h1 h2]; simp (maxSteps := 1000000) (disch := omega) only [y_up_e, y_up_n, y_ps_e, y_ps_n, y_up_r]
          · rw [g2.2.1 j (by omega)]; simp (maxSteps := 1000000) (disch := omega) only [y_up_e, y_up_n, y_ps_e, y_ps_n]
/-! drop -/
theorem y_rf_c (S : y_S) (x : Int32) : (y_rf S x = 0 ∧ ∃ m, m < S 1 0 ∧ m < 2 ^ 31 ∧ x = nI m ∧ S 6 m = 0) ∨ y_rf S x = -11 ∨ y_rf S x = -13 := by
  unfold y_rf
  cases h : y_rg x 0 (S 1 0 - 1) with
  | false => exact Or.inr (Or.inr (if_neg (by simp)))
  | true =>
    have h' := y_rgt.mp h
    obtain ⟨m, hm, rfl, hx⟩ := y_of x h'.1
    have hx' : ((m : Int)).toNat = m := Int.toNat_natCast m
    rw [if_pos rfl, hx, hx']
    by_cases e : S 6 m = 0
    · rw [if_pos e]
      exact Or.inl ⟨rfl, m, by omega, hm, rfl, e⟩
    · rw [if_neg e]
      exact Or.inr (Or.inl rfl)
theorem y_o_drop (S : y_S) (hok : y_okM S) (hox : y_okX S) (x : Int32) : ∃ v S', y_B q_HR_drop q_Mo_drop [.int x] S v S' := by
  obtain ⟨k1, k2, k3, k4, k5, k6, k7, k8⟩ := id hok
  have no : ∀ v : Int32, y_rf S x = v → ¬ v.toInt = 0 → ∃ v S', y_B q_HR_drop q_Mo_drop [.int x] S v S' := by
    intro v hv h0
    refine ⟨v, S, y_B_no (fun d I J hZ => ?_) (fun d I J hZ => ?_)⟩
    · refine b_HR_drop _ _ _ _ _ ?_
      simp (maxSteps := 1000000) (disch := omega) only [sh_is0, sh_gI0, sh_wI0, sh_wZ0, sh_gR0, sh_gR1, sh_gR2, sh_lI0, sh_lI1, sh_lI2, sh_sI0, sh_sI1, sh_sI2, sh_len0, sh_len1, sh_len2, sh_lZ0, sh_sZ0, sh_gJ0, sh_wJ0, sh_lR0, sh_lJ0, sh_sJ0, y_eo, y_eb, y_eI, y_eJ, y_eR, y_eV, y_in, nI_clamp, cond_true, y_eqI, y_ltI, y_leI, y_lit, nI_toInt, if_true, if_false, if_pos, if_neg, y_bIt, y_bIf, y_band, y_Me_refusal _ (Or.inl rfl) J hZ.2.2.1 hok, hv]
    · refine b_Mo_drop _ _ _ _ _ ?_
      simp (maxSteps := 1000000) (disch := omega) only [sh_is0, sh_gI0, sh_wI0, sh_wZ0, sh_gR0, sh_gR1, sh_gR2, sh_lI0, sh_lI1, sh_lI2, sh_sI0, sh_sI1, sh_sI2, sh_len0, sh_len1, sh_len2, sh_lZ0, sh_sZ0, sh_gJ0, sh_wJ0, sh_lR0, sh_lJ0, sh_sJ0, y_eo, y_eb, y_eI, y_eJ, y_eR, y_eV, y_in, nI_clamp, cond_true, y_eqI, y_ltI, y_leI, y_lit, nI_toInt, if_true, if_false, if_pos, if_neg, y_bIt, y_bIf, y_band, y_Mo_refusal1 _ J hZ.2.2.1 hok, hv]
  rcases y_rf_c S x with ⟨h, m, hm, hm31, rfl, h6⟩ | h | h
  · have ho := y_dr_ok hok m
    have hX : y_okX (y_dr S m) := by
      unfold y_okX at hox ⊢
      simp (disch := omega) only [y_drn]
      exact hox
    have hrg : y_rg (nI m) 0 (S 1 0 - 1) = true := y_rgt.mpr (by rw [nI_toInt hm31]; omega)
    refine ⟨nI (y_lf (y_dr S m)), y_dr S m, fun d I J hZ => ?_, fun d I J hZ => ?_⟩
    · obtain ⟨z1, z2, hM, z5, z8⟩ := hZ
      obtain ⟨⟨c0, c1, c2, c3, c4⟩, z3, z4⟩ := id hM
      have hM1 : y_vM 1 (y_dr S m) (xz_up I 7 m 1) := by
        refine ⟨⟨?_, ?_, ?_, ?_, ?_⟩, ?_, fun i hi => ?_⟩
        · simp (disch := omega) only [y_up_n, y_drn, c0]
        · simp (disch := omega) only [y_up_n, y_drn, c1]
        · simp (disch := omega) only [y_up_n, y_drn, c2]
        · simp (disch := omega) only [y_up_n, y_drn, c3]
        · simp (disch := omega) only [y_up_n, y_drn, c4]
        · simp (disch := omega) only [y_up_n, y_drn, z3]
        · simp (disch := omega) only [y_drn] at hi
          obtain ⟨i1, i2, i3, i4, i5⟩ := z4 i hi
          by_cases e : i = m
          · subst e
            simp (disch := omega) only [y_up_n, y_up_e, y_drn, y_dre]
            exact ⟨i1, i2, i3, i4, rfl⟩
          · simp (disch := omega) only [y_up_n, y_drn]
            exact ⟨i1, i2, i3, i4, i5⟩
      have hrm : zC (d + 29) q_Me_remove [.ref 2, .int (nI m)] (xz_SH, I, J) = some (none, (xz_SH, xz_up I 7 m 1, J)) := by
        refine b_Me_remove _ _ _ _ _ ?_
        simp (maxSteps := 1000000) (disch := omega) only [sh_is0, sh_gI0, sh_wI0, sh_wZ0, sh_gR0, sh_gR1, sh_gR2, sh_lI0, sh_lI1, sh_lI2, sh_sI0, sh_sI1, sh_sI2, sh_len0, sh_len1, sh_len2, sh_lZ0, sh_sZ0, sh_gJ0, sh_wJ0, sh_lR0, sh_lJ0, sh_sJ0, y_eo, y_eb, y_eI, y_eJ, y_eR, y_eV, y_in, nI_clamp, cond_true, y_eqI, y_ltI, y_leI, y_lit, nI_toInt, if_true, if_false, if_pos, if_neg, y_bIt, y_bIf, y_band, y_Me_hasCome _ (Or.inl rfl) J hM hok, hrg, y_an1]
      have hlf := y_Me_left (d + 28) (Or.inl rfl) J hM1 ho
      refine ⟨xz_up I 7 m 1, J, ?_, ⟨ho, hX, hM1, ?_, y_cst_of ?_ ?_ ?_ z8⟩, fun q hq => ?_, fun _ _ => rfl⟩
      · refine b_HR_drop _ _ _ _ _ ?_
        simp (maxSteps := 1000000) (disch := omega) only [sh_is0, sh_gI0, sh_wI0, sh_wZ0, sh_gR0, sh_gR1, sh_gR2, sh_lI0, sh_lI1, sh_lI2, sh_sI0, sh_sI1, sh_sI2, sh_len0, sh_len1, sh_len2, sh_lZ0, sh_sZ0, sh_gJ0, sh_wJ0, sh_lR0, sh_lJ0, sh_sJ0, y_eo, y_eb, y_eI, y_eJ, y_eR, y_eV, y_in, nI_clamp, cond_true, y_eqI, y_ltI, y_leI, y_lit, nI_toInt, if_true, if_false, if_pos, if_neg, y_bIt, y_bIf, y_band, y_Me_refusal _ (Or.inl rfl) J hM hok, h, hrm, hlf]
      · unfold y_vX at z5 ⊢
        simp (disch := omega) only [y_up_r, y_drn]
        exact z5
      · simp (maxSteps := 1000000) (disch := omega) only [y_up_e, y_up_n, y_ps_e, y_ps_n]
      · simp (maxSteps := 1000000) (disch := omega) only [y_up_e, y_up_n, y_ps_e, y_ps_n]
      · simp (maxSteps := 1000000) (disch := omega) only [y_up_e, y_up_n, y_ps_e, y_ps_n]
      · simp (maxSteps := 1000000) (disch := omega) only [y_up_e, y_up_n, y_ps_e, y_ps_n, y_up_r]
    · obtain ⟨z1, z2, hR, z5⟩ := hZ
      have hlf := y_Mo_left (d + 28) J (y_dr_vR hR m) ho
      refine ⟨xz_up I 93 m 0, J, ?_, ⟨ho, hX, y_dr_vR hR m, ?_⟩, fun q hq _ _ => ?_, fun j hj => ?_, fun _ _ => rfl⟩
      · refine b_Mo_drop _ _ _ _ _ ?_
        simp (maxSteps := 1000000) (disch := omega) only [sh_is0, sh_gI0, sh_wI0, sh_wZ0, sh_gR0, sh_gR1, sh_gR2, sh_lI0, sh_lI1, sh_lI2, sh_sI0, sh_sI1, sh_sI2, sh_len0, sh_len1, sh_len2, sh_lZ0, sh_sZ0, sh_gJ0, sh_wJ0, sh_lR0, sh_lJ0, sh_sJ0, y_eo, y_eb, y_eI, y_eJ, y_eR, y_eV, y_in, nI_clamp, cond_true, y_eqI, y_ltI, y_leI, y_lit, nI_toInt, if_true, if_false, if_pos, if_neg, y_bIt, y_bIf, y_band, y_Mo_refusal1 _ J hR hok, h, y_an0, hlf]
      · unfold y_vY at z5 ⊢
        simp (disch := omega) only [y_up_r, y_up_n, y_drn]
        exact z5
      · simp (maxSteps := 1000000) (disch := omega) only [y_up_e, y_up_n, y_ps_e, y_ps_n, y_up_r]
      · simp (maxSteps := 1000000) (disch := omega) only [y_up_e, y_up_n, y_ps_e, y_ps_n]
  · exact no _ h (by decide)
  · exact no _ h (by decide)
/-! meeting -/
theorem y_o_meeting (S : y_S) (hok : y_okM S) (x w : Int32) : ∃ v S', y_B q_HR_meeting q_Mo_meeting [.int x, .int w] S v S' := by
  obtain ⟨k1, k2, k3, k4, k5, k6, k7, k8⟩ := id hok
  cases hw : y_rg w 0 3 with
  | false =>
    have h' := y_rgf.mp hw
    refine ⟨-1, S, y_B_no (fun d I J hZ => ?_) (fun d I J hZ => ?_)⟩
    · refine b_HR_meeting _ _ _ _ _ _ ?_
      by_cases e : w.toInt < 0
      · rw [if_pos (by rw [y_ltI, y_lit.1]; exact e)]
      · rw [if_neg (by rw [y_ltI, y_lit.1]; exact e), if_neg (by rw [y_leI]; simp only [y_lit]; omega)]
    · refine b_Mo_meeting _ _ _ _ _ _ ?_
      rw [y_Mo_inI _ w 0 3 (l := 0) (h := 3) (by decide) (by decide), hw, y_eI, if_pos (by decide)]
  | true =>
    have h' := y_rgt.mp hw
    have w1 : ¬ w < 0 := by rw [y_ltI, y_lit.1]; omega
    have w2 : w ≤ 3 := by rw [y_leI]; simp only [y_lit]; omega
    have no : ∀ v : Int32, y_rf S x = v → ¬ v = 0 → ∃ v S', y_B q_HR_meeting q_Mo_meeting [.int x, .int w] S v S' := by
      intro v hv h0
      refine ⟨v, S, y_B_no (fun d I J hZ => ?_) (fun d I J hZ => ?_)⟩
      · refine b_HR_meeting _ _ _ _ _ _ ?_
        rw [if_neg w1, if_pos w2]
        simp (maxSteps := 1000000) (disch := omega) only [sh_is0, sh_gI0, sh_wI0, sh_wZ0, sh_gR0, sh_gR1, sh_gR2, sh_lI0, sh_lI1, sh_lI2, sh_sI0, sh_sI1, sh_sI2, sh_len0, sh_len1, sh_len2, sh_lZ0, sh_sZ0, sh_gJ0, sh_wJ0, sh_lR0, sh_lJ0, sh_sJ0, y_eo, y_eb, y_Me_refusal _ (Or.inl rfl) J hZ.2.2.1 hok, y_eI, hv]
        rw [if_neg h0]
      · refine b_Mo_meeting _ _ _ _ _ _ ?_
        rw [y_Mo_inI _ w 0 3 (l := 0) (h := 3) (by decide) (by decide), hw, y_eI, if_neg (by decide)]
        simp (maxSteps := 1000000) (disch := omega) only [sh_is0, sh_gI0, sh_wI0, sh_wZ0, sh_gR0, sh_gR1, sh_gR2, sh_lI0, sh_lI1, sh_lI2, sh_sI0, sh_sI1, sh_sI2, sh_len0, sh_len1, sh_len2, sh_lZ0, sh_sZ0, sh_gJ0, sh_wJ0, sh_lR0, sh_lJ0, sh_sJ0, y_eo, y_eb, y_Mo_refusal1 _ J hZ.2.2.1 hok, y_eI, hv]
        rw [if_neg h0]
    rcases y_rf_c S x with ⟨h, m, hm, hm31, rfl, h6⟩ | h | h
    · refine ⟨if w = 0 then nI (S 2 m) else if w = 1 then nI (S 3 m) else if w = 2 then nI (S 4 m) else nI (S 5 m), S, y_B_no (fun d I J hZ => ?_) (fun d I J hZ => ?_)⟩
      · obtain ⟨i1, i2, i3, i4, i5⟩ := hZ.2.2.1.2.2 m hm
        refine b_HR_meeting _ _ _ _ _ _ ?_
        rw [if_neg w1, if_pos w2]
        simp (maxSteps := 1000000) (disch := omega) only [sh_is0, sh_gI0, sh_wI0, sh_wZ0, sh_gR0, sh_gR1, sh_gR2, sh_lI0, sh_lI1, sh_lI2, sh_sI0, sh_sI1, sh_sI2, sh_len0, sh_len1, sh_len2, sh_lZ0, sh_sZ0, sh_gJ0, sh_wJ0, sh_lR0, sh_lJ0, sh_sJ0, y_eo, y_eb, y_Me_refusal _ (Or.inl rfl) J hZ.2.2.1 hok, y_eI, h]
        rw [if_pos trivial]
        by_cases e0 : w = 0
        · rw [if_pos e0, if_pos e0]
          simp (maxSteps := 1000000) (disch := omega) only [sh_is0, sh_gI0, sh_wI0, sh_wZ0, sh_gR0, sh_gR1, sh_gR2, sh_lI0, sh_lI1, sh_lI2, sh_sI0, sh_sI1, sh_sI2, sh_len0, sh_len1, sh_len2, sh_lZ0, sh_sZ0, sh_gJ0, sh_wJ0, sh_lR0, sh_lJ0, sh_sJ0, y_eo, y_eb, y_eI, y_eJ, y_eR, y_eV, y_in, nI_clamp, cond_true, y_eqI, y_ltI, y_leI, y_lit, nI_toInt, if_true, if_false, if_pos, if_neg, y_bIt, y_bIf, y_band, i1]
        · rw [if_neg e0, if_neg e0]
          by_cases e1 : w = 1
          · rw [if_pos e1, if_pos e1]
            simp (maxSteps := 1000000) (disch := omega) only [sh_is0, sh_gI0, sh_wI0, sh_wZ0, sh_gR0, sh_gR1, sh_gR2, sh_lI0, sh_lI1, sh_lI2, sh_sI0, sh_sI1, sh_sI2, sh_len0, sh_len1, sh_len2, sh_lZ0, sh_sZ0, sh_gJ0, sh_wJ0, sh_lR0, sh_lJ0, sh_sJ0, y_eo, y_eb, y_eI, y_eJ, y_eR, y_eV, y_in, nI_clamp, cond_true, y_eqI, y_ltI, y_leI, y_lit, nI_toInt, if_true, if_false, if_pos, if_neg, y_bIt, y_bIf, y_band, i2]
          · rw [if_neg e1, if_neg e1]
            by_cases e2 : w = 2
            · rw [if_pos e2, if_pos e2]
              simp (maxSteps := 1000000) (disch := omega) only [sh_is0, sh_gI0, sh_wI0, sh_wZ0, sh_gR0, sh_gR1, sh_gR2, sh_lI0, sh_lI1, sh_lI2, sh_sI0, sh_sI1, sh_sI2, sh_len0, sh_len1, sh_len2, sh_lZ0, sh_sZ0, sh_gJ0, sh_wJ0, sh_lR0, sh_lJ0, sh_sJ0, y_eo, y_eb, y_eI, y_eJ, y_eR, y_eV, y_in, nI_clamp, cond_true, y_eqI, y_ltI, y_leI, y_lit, nI_toInt, if_true, if_false, if_pos, if_neg, y_bIt, y_bIf, y_band, i3]
            · rw [if_neg e2, if_neg e2]
              simp (maxSteps := 1000000) (disch := omega) only [sh_is0, sh_gI0, sh_wI0, sh_wZ0, sh_gR0, sh_gR1, sh_gR2, sh_lI0, sh_lI1, sh_lI2, sh_sI0, sh_sI1, sh_sI2, sh_len0, sh_len1, sh_len2, sh_lZ0, sh_sZ0, sh_gJ0, sh_wJ0, sh_lR0, sh_lJ0, sh_sJ0, y_eo, y_eb, y_eI, y_eJ, y_eR, y_eV, y_in, nI_clamp, cond_true, y_eqI, y_ltI, y_leI, y_lit, nI_toInt, if_true, if_false, if_pos, if_neg, y_bIt, y_bIf, y_band, i4]
      · obtain ⟨i1, i2, i3, i4, i5⟩ := hZ.2.2.1.2.2 m hm
        refine b_Mo_meeting _ _ _ _ _ _ ?_
        rw [y_Mo_inI _ w 0 3 (l := 0) (h := 3) (by decide) (by decide), hw, y_eI, if_neg (by decide)]
        simp (maxSteps := 1000000) (disch := omega) only [sh_is0, sh_gI0, sh_wI0, sh_wZ0, sh_gR0, sh_gR1, sh_gR2, sh_lI0, sh_lI1, sh_lI2, sh_sI0, sh_sI1, sh_sI2, sh_len0, sh_len1, sh_len2, sh_lZ0, sh_sZ0, sh_gJ0, sh_wJ0, sh_lR0, sh_lJ0, sh_sJ0, y_eo, y_eb, y_Mo_refusal1 _ J hZ.2.2.1 hok, y_eI, h]
        rw [if_pos trivial]
        by_cases e0 : w = 0
        · rw [if_pos e0, if_pos e0]
          simp (maxSteps := 1000000) (disch := omega) only [sh_is0, sh_gI0, sh_wI0, sh_wZ0, sh_gR0, sh_gR1, sh_gR2, sh_lI0, sh_lI1, sh_lI2, sh_sI0, sh_sI1, sh_sI2, sh_len0, sh_len1, sh_len2, sh_lZ0, sh_sZ0, sh_gJ0, sh_wJ0, sh_lR0, sh_lJ0, sh_sJ0, y_eo, y_eb, y_eI, y_eJ, y_eR, y_eV, y_in, nI_clamp, cond_true, y_eqI, y_ltI, y_leI, y_lit, nI_toInt, if_true, if_false, if_pos, if_neg, y_bIt, y_bIf, y_band, i1]
        · rw [if_neg e0, if_neg e0]
          by_cases e1 : w = 1
          · rw [if_pos e1, if_pos e1]
            simp (maxSteps := 1000000) (disch := omega) only [sh_is0, sh_gI0, sh_wI0, sh_wZ0, sh_gR0, sh_gR1, sh_gR2, sh_lI0, sh_lI1, sh_lI2, sh_sI0, sh_sI1, sh_sI2, sh_len0, sh_len1, sh_len2, sh_lZ0, sh_sZ0, sh_gJ0, sh_wJ0, sh_lR0, sh_lJ0, sh_sJ0, y_eo, y_eb, y_eI, y_eJ, y_eR, y_eV, y_in, nI_clamp, cond_true, y_eqI, y_ltI, y_leI, y_lit, nI_toInt, if_true, if_false, if_pos, if_neg, y_bIt, y_bIf, y_band, i2]
          · rw [if_neg e1, if_neg e1]
            by_cases e2 : w = 2
            · rw [if_pos e2, if_pos e2]
              simp (maxSteps := 1000000) (disch := omega) only [sh_is0, sh_gI0, sh_wI0, sh_wZ0, sh_gR0, sh_gR1, sh_gR2, sh_lI0, sh_lI1, sh_lI2, sh_sI0, sh_sI1, sh_sI2, sh_len0, sh_len1, sh_len2, sh_lZ0, sh_sZ0, sh_gJ0, sh_wJ0, sh_lR0, sh_lJ0, sh_sJ0, y_eo, y_eb, y_eI, y_eJ, y_eR, y_eV, y_in, nI_clamp, cond_true, y_eqI, y_ltI, y_leI, y_lit, nI_toInt, if_true, if_false, if_pos, if_neg, y_bIt, y_bIf, y_band, i3]
            · rw [if_neg e2, if_neg e2]
              simp (maxSteps := 1000000) (disch := omega) only [sh_is0, sh_gI0, sh_wI0, sh_wZ0, sh_gR0, sh_gR1, sh_gR2, sh_lI0, sh_lI1, sh_lI2, sh_sI0, sh_sI1, sh_sI2, sh_len0, sh_len1, sh_len2, sh_lZ0, sh_sZ0, sh_gJ0, sh_wJ0, sh_lR0, sh_lJ0, sh_sJ0, y_eo, y_eb, y_eI, y_eJ, y_eR, y_eV, y_in, nI_clamp, cond_true, y_eqI, y_ltI, y_leI, y_lit, nI_toInt, if_true, if_false, if_pos, if_neg, y_bIt, y_bIf, y_band, i4]
    · exact no _ h (by decide)
    · exact no _ h (by decide)
