/-! renew, between, see, event, book -/
theorem y_rn_ok {S : y_S} (hok : y_okM S) (hox : y_okX S) {k m v : Nat} (h : (k = 2 ∧ v ≤ 99) ∨ (k = 5 ∧ 1 ≤ v ∧ v ≤ 100)) : y_okM (y_ps S k m v) ∧ y_okX (y_ps S k m v) := by
  obtain ⟨k1, k2, k3, k4, k5, k6, k7, k8⟩ := hok
  refine ⟨?_, ?_⟩
  · unfold y_okM
    simp (maxSteps := 1000000) (disch := omega) only [y_up_e, y_up_n, y_ps_e, y_ps_n]
    refine ⟨k1, k2, k3, k4, k5, k6, k7, fun i hi => ?_⟩
    obtain ⟨g1, g2, g3, g4, g5, g6, g7⟩ := k8 i hi
    rcases h with ⟨rfl, h⟩ | ⟨rfl, h⟩
    · by_cases e : i = m
      · subst e
        simp (maxSteps := 1000000) (disch := omega) only [y_up_e, y_up_n, y_ps_e, y_ps_n]
        exact ⟨h, g2, g3, g4, g5, g6, g7⟩
      · simp (maxSteps := 1000000) (disch := omega) only [y_up_e, y_up_n, y_ps_e, y_ps_n]
        exact ⟨g1, g2, g3, g4, g5, g6, g7⟩
    · by_cases e : i = m
      · subst e
        simp (maxSteps := 1000000) (disch := omega) only [y_up_e, y_up_n, y_ps_e, y_ps_n]
        exact ⟨g1, g2, g3, g4, h.1, h.2, g7⟩
      · simp (maxSteps := 1000000) (disch := omega) only [y_up_e, y_up_n, y_ps_e, y_ps_n]
        exact ⟨g1, g2, g3, g4, g5, g6, g7⟩
  · unfold y_okX at hox ⊢
    simp (maxSteps := 1000000) (disch := omega) only [y_up_e, y_up_n, y_ps_e, y_ps_n]
    exact hox
theorem y_o_renew (S : y_S) (hok : y_okM S) (hox : y_okX S) (x w u : Int32) : ∃ v S', y_B q_HR_renew q_Mo_renew [.int x, .int w, .int u] S v S' := by
  obtain ⟨k1, k2, k3, k4, k5, k6, k7, k8⟩ := id hok
  cases hw : y_rg w 0 1 with
  | false =>
    have h' := y_rgf.mp hw
    refine ⟨-1, S, y_B_no (fun d I J hZ => ?_) (fun d I J hZ => ?_)⟩
    · refine b_HR_renew _ _ _ _ _ _ _ ?_
      rw [if_neg (by rw [y_eqI, y_lit.1]; omega), if_neg (by rw [y_eqI]; simp only [y_lit]; omega)]
    · refine b_Mo_renew _ _ _ _ _ _ _ ?_
      rw [y_Mo_inI _ w 0 1 (l := 0) (h := 1) (by decide) (by decide), hw, y_eI, if_pos (by decide)]
  | true =>
    have h' := y_rgt.mp hw
    have w01 : w = 0 ∨ w = 1 := by
      simp only [y_eqI, y_lit]
      omega
    rcases w01 with rfl | rfl
    · have no : ∀ v : Int32, y_rf S x = v → ¬ v = 0 → ∃ v S', y_B q_HR_renew q_Mo_renew [.int x, .int 0, .int u] S v S' := by
        intro v hv h0
        refine ⟨v, S, y_B_no (fun d I J hZ => ?_) (fun d I J hZ => ?_)⟩
        · refine b_HR_renew _ _ _ _ _ _ _ ?_
          rw [if_pos rfl]
          simp (maxSteps := 1000000) (disch := omega) only [sh_is0, sh_gI0, sh_wI0, sh_wZ0, sh_gR0, sh_gR1, sh_gR2, sh_lI0, sh_lI1, sh_lI2, sh_sI0, sh_sI1, sh_sI2, sh_len0, sh_len1, sh_len2, sh_lZ0, sh_sZ0, sh_gJ0, sh_wJ0, sh_lR0, sh_lJ0, sh_sJ0, y_eo, y_eb, y_Me_refusal _ (Or.inl rfl) J hZ.2.2.1 hok, y_eI, hv]
          rw [if_neg h0]
        · refine b_Mo_renew _ _ _ _ _ _ _ ?_
          rw [y_Mo_inI _ 0 0 1 (l := 0) (h := 1) (by decide) (by decide), hw, y_eI, if_neg (by decide)]
          simp (maxSteps := 1000000) (disch := omega) only [sh_is0, sh_gI0, sh_wI0, sh_wZ0, sh_gR0, sh_gR1, sh_gR2, sh_lI0, sh_lI1, sh_lI2, sh_sI0, sh_sI1, sh_sI2, sh_len0, sh_len1, sh_len2, sh_lZ0, sh_sZ0, sh_gJ0, sh_wJ0, sh_lR0, sh_lJ0, sh_sJ0, y_eo, y_eb, y_Mo_refusal1 _ J hZ.2.2.1 hok, y_eI, hv]
          rw [if_neg h0]
      rcases y_rf_c S x with ⟨h, m, hm, hm31, rfl, h6⟩ | h | h
      · cases hu : y_rg u 0 99 with
        | false =>
          refine ⟨-2, S, y_B_no (fun d I J hZ => ?_) (fun d I J hZ => ?_)⟩
          · refine b_HR_renew _ _ _ _ _ _ _ ?_
            rw [if_pos rfl]
            simp (maxSteps := 1000000) (disch := omega) only [sh_is0, sh_gI0, sh_wI0, sh_wZ0, sh_gR0, sh_gR1, sh_gR2, sh_lI0, sh_lI1, sh_lI2, sh_sI0, sh_sI1, sh_sI2, sh_len0, sh_len1, sh_len2, sh_lZ0, sh_sZ0, sh_gJ0, sh_wJ0, sh_lR0, sh_lJ0, sh_sJ0, y_eo, y_eb, y_Me_refusal _ (Or.inl rfl) J hZ.2.2.1 hok, y_eI, h]
            rw [if_pos trivial, if_pos trivial]
            simp (maxSteps := 1000000) (disch := omega) only [sh_is0, sh_gI0, sh_wI0, sh_wZ0, sh_gR0, sh_gR1, sh_gR2, sh_lI0, sh_lI1, sh_lI2, sh_sI0, sh_sI1, sh_sI2, sh_len0, sh_len1, sh_len2, sh_lZ0, sh_sZ0, sh_gJ0, sh_wJ0, sh_lR0, sh_lJ0, sh_sJ0, y_eo, y_eb, y_HR_isTime, hu, y_eI]
            rw [if_pos (by decide)]
          · refine b_Mo_renew _ _ _ _ _ _ _ ?_
            rw [y_Mo_inI _ 0 0 1 (l := 0) (h := 1) (by decide) (by decide), hw, y_eI, if_neg (by decide)]
            simp (maxSteps := 1000000) (disch := omega) only [sh_is0, sh_gI0, sh_wI0, sh_wZ0, sh_gR0, sh_gR1, sh_gR2, sh_lI0, sh_lI1, sh_lI2, sh_sI0, sh_sI1, sh_sI2, sh_len0, sh_len1, sh_len2, sh_lZ0, sh_sZ0, sh_gJ0, sh_wJ0, sh_lR0, sh_lJ0, sh_sJ0, y_eo, y_eb, y_Mo_refusal1 _ J hZ.2.2.1 hok, y_eI, h]
            rw [if_pos trivial, if_pos trivial]
            simp (maxSteps := 1000000) (disch := omega) only [sh_is0, sh_gI0, sh_wI0, sh_wZ0, sh_gR0, sh_gR1, sh_gR2, sh_lI0, sh_lI1, sh_lI2, sh_sI0, sh_sI1, sh_sI2, sh_len0, sh_len1, sh_len2, sh_lZ0, sh_sZ0, sh_gJ0, sh_wJ0, sh_lR0, sh_lJ0, sh_sJ0, y_eo, y_eb, y_Mo_isTime, hu, y_eI]
            rw [if_pos (by decide)]
        | true =>
          have u' := y_rgt.mp hu
          obtain ⟨un, _, rfl, hun⟩ := y_of u (by omega)
          have ho := y_rn_ok hok hox (k := 2) (m := m) (v := un) (by omega)
          refine ⟨nI (S 2 m), y_ps S 2 m un, fun d I J hZ => ?_, fun d I J hZ => ?_⟩
          · obtain ⟨z1, z2, hM, z5, z8⟩ := hZ
            obtain ⟨⟨c0, c1, c2, c3, c4⟩, z3, z4⟩ := id hM
            obtain ⟨m1, m2, m3, m4, m5⟩ := z4 m hm
            have hch : zC (d + 29) q_Me_change [.ref 2, .int (nI m), .int 0, .int (nI un)] (xz_SH, I, J) = some (some (.int (nI (S 2 m))), (xz_SH, xz_up I 3 m (nI un), J)) := by
              refine b_Me_change _ _ _ _ _ _ _ ?_
              rw [if_pos rfl]
              simp (maxSteps := 1000000) (disch := omega) only [sh_is0, sh_gI0, sh_wI0, sh_wZ0, sh_gR0, sh_gR1, sh_gR2, sh_lI0, sh_lI1, sh_lI2, sh_sI0, sh_sI1, sh_sI2, sh_len0, sh_len1, sh_len2, sh_lZ0, sh_sZ0, sh_gJ0, sh_wJ0, sh_lR0, sh_lJ0, sh_sJ0, y_eo, y_eb, y_eI, y_eJ, y_eR, y_eV, y_in, nI_clamp, cond_true, y_eqI, y_ltI, y_leI, y_lit, nI_toInt, if_true, if_false, if_pos, if_neg, y_bIt, y_bIf, y_band, m1]
            refine ⟨xz_up I 3 m (nI un), J, ?_, ⟨ho.1, ho.2, ⟨⟨?_, ?_, ?_, ?_, ?_⟩, ?_, fun i hi => ?_⟩, ?_, y_cst_of ?_ ?_ ?_ z8⟩, fun q hq => ?_, fun _ _ => rfl⟩
            · refine b_HR_renew _ _ _ _ _ _ _ ?_
              rw [if_pos rfl]
              simp (maxSteps := 1000000) (disch := omega) only [sh_is0, sh_gI0, sh_wI0, sh_wZ0, sh_gR0, sh_gR1, sh_gR2, sh_lI0, sh_lI1, sh_lI2, sh_sI0, sh_sI1, sh_sI2, sh_len0, sh_len1, sh_len2, sh_lZ0, sh_sZ0, sh_gJ0, sh_wJ0, sh_lR0, sh_lJ0, sh_sJ0, y_eo, y_eb, y_Me_refusal _ (Or.inl rfl) J hM hok, y_eI, h]
              rw [if_pos trivial, if_pos trivial]
              simp (maxSteps := 1000000) (disch := omega) only [sh_is0, sh_gI0, sh_wI0, sh_wZ0, sh_gR0, sh_gR1, sh_gR2, sh_lI0, sh_lI1, sh_lI2, sh_sI0, sh_sI1, sh_sI2, sh_len0, sh_len1, sh_len2, sh_lZ0, sh_sZ0, sh_gJ0, sh_wJ0, sh_lR0, sh_lJ0, sh_sJ0, y_eo, y_eb, y_HR_isTime, hu, y_eI]
              rw [if_neg (by decide)]
              simp (maxSteps := 1000000) (disch := omega) only [sh_is0, sh_gI0, sh_wI0, sh_wZ0, sh_gR0, sh_gR1, sh_gR2, sh_lI0, sh_lI1, sh_lI2, sh_sI0, sh_sI1, sh_sI2, sh_len0, sh_len1, sh_len2, sh_lZ0, sh_sZ0, sh_gJ0, sh_wJ0, sh_lR0, sh_lJ0, sh_sJ0, y_eo, y_eb, hch, y_eI]
            · simp (maxSteps := 1000000) (disch := omega) only [y_up_e, y_up_n, y_ps_e, y_ps_n, c0]
            · simp (maxSteps := 1000000) (disch := omega) only [y_up_e, y_up_n, y_ps_e, y_ps_n, c1]
            · simp (maxSteps := 1000000) (disch := omega) only [y_up_e, y_up_n, y_ps_e, y_ps_n, c2]
            · simp (maxSteps := 1000000) (disch := omega) only [y_up_e, y_up_n, y_ps_e, y_ps_n, c3]
            · simp (maxSteps := 1000000) (disch := omega) only [y_up_e, y_up_n, y_ps_e, y_ps_n, c4]
            · simp (maxSteps := 1000000) (disch := omega) only [y_up_e, y_up_n, y_ps_e, y_ps_n, z3]
            · simp (disch := omega) only [y_ps_n] at hi
              obtain ⟨i1, i2, i3, i4, i5⟩ := z4 i hi
              by_cases e : i = m
              · subst e
                simp (maxSteps := 1000000) (disch := omega) only [y_up_e, y_up_n, y_ps_e, y_ps_n]
                exact ⟨trivial, i2, i3, i4, i5⟩
              · simp (maxSteps := 1000000) (disch := omega) only [y_up_e, y_up_n, y_ps_e, y_ps_n]
                exact ⟨i1, i2, i3, i4, i5⟩
            · unfold y_vX at z5 ⊢
              simp (maxSteps := 1000000) (disch := omega) only [y_up_e, y_up_n, y_ps_e, y_ps_n, y_up_r]
              exact z5
            · simp (maxSteps := 1000000) (disch := omega) only [y_up_e, y_up_n, y_ps_e, y_ps_n]
            · simp (maxSteps := 1000000) (disch := omega) only [y_up_e, y_up_n, y_ps_e, y_ps_n]
            · simp (maxSteps := 1000000) (disch := omega) only [y_up_e, y_up_n, y_ps_e, y_ps_n]
            · simp (maxSteps := 1000000) (disch := omega) only [y_up_e, y_up_n, y_ps_e, y_ps_n, y_up_r]
          · obtain ⟨z1, z2, hR, z5⟩ := hZ
            obtain ⟨⟨c0, c1, c2, c3, c4⟩, z3, z4⟩ := id hR
            obtain ⟨m1, m2, m3, m4, m5⟩ := z4 m hm
            refine ⟨xz_up I 94 m (nI un), J, ?_, ⟨ho.1, ho.2, ⟨⟨?_, ?_, ?_, ?_, ?_⟩, ?_, fun i hi => ?_⟩, ?_⟩, fun q hq _ _ => ?_, fun j hj => ?_, fun _ _ => rfl⟩
            · refine b_Mo_renew _ _ _ _ _ _ _ ?_
              rw [y_Mo_inI _ 0 0 1 (l := 0) (h := 1) (by decide) (by decide), hw, y_eI, if_neg (by decide)]
              simp (maxSteps := 1000000) (disch := omega) only [sh_is0, sh_gI0, sh_wI0, sh_wZ0, sh_gR0, sh_gR1, sh_gR2, sh_lI0, sh_lI1, sh_lI2, sh_sI0, sh_sI1, sh_sI2, sh_len0, sh_len1, sh_len2, sh_lZ0, sh_sZ0, sh_gJ0, sh_wJ0, sh_lR0, sh_lJ0, sh_sJ0, y_eo, y_eb, y_Mo_refusal1 _ J hR hok, y_eI, h]
              rw [if_pos trivial, if_pos trivial]
              simp (maxSteps := 1000000) (disch := omega) only [sh_is0, sh_gI0, sh_wI0, sh_wZ0, sh_gR0, sh_gR1, sh_gR2, sh_lI0, sh_lI1, sh_lI2, sh_sI0, sh_sI1, sh_sI2, sh_len0, sh_len1, sh_len2, sh_lZ0, sh_sZ0, sh_gJ0, sh_wJ0, sh_lR0, sh_lJ0, sh_sJ0, y_eo, y_eb, y_Mo_isTime, hu, y_eI]
              rw [if_neg (by decide), if_pos trivial]
              simp (maxSteps := 1000000) (disch := omega) only [sh_is0, sh_gI0, sh_wI0, sh_wZ0, sh_gR0, sh_gR1, sh_gR2, sh_lI0, sh_lI1, sh_lI2, sh_sI0, sh_sI1, sh_sI2, sh_len0, sh_len1, sh_len2, sh_lZ0, sh_sZ0, sh_gJ0, sh_wJ0, sh_lR0, sh_lJ0, sh_sJ0, y_eo, y_eb, y_eI, y_eJ, y_eR, y_eV, y_in, nI_clamp, cond_true, y_eqI, y_ltI, y_leI, y_lit, nI_toInt, if_true, if_false, if_pos, if_neg, y_bIt, y_bIf, y_band, m1]
            · simp (maxSteps := 1000000) (disch := omega) only [y_up_e, y_up_n, y_ps_e, y_ps_n, c0]
            · simp (maxSteps := 1000000) (disch := omega) only [y_up_e, y_up_n, y_ps_e, y_ps_n, c1]
            · simp (maxSteps := 1000000) (disch := omega) only [y_up_e, y_up_n, y_ps_e, y_ps_n, c2]
            · simp (maxSteps := 1000000) (disch := omega) only [y_up_e, y_up_n, y_ps_e, y_ps_n, c3]
            · simp (maxSteps := 1000000) (disch := omega) only [y_up_e, y_up_n, y_ps_e, y_ps_n, c4]
            · simp (maxSteps := 1000000) (disch := omega) only [y_up_e, y_up_n, y_ps_e, y_ps_n, z3]
            · simp (disch := omega) only [y_ps_n] at hi
              obtain ⟨i1, i2, i3, i4, i5⟩ := z4 i hi
              by_cases e : i = m
              · subst e
                simp (maxSteps := 1000000) (disch := omega) only [y_up_e, y_up_n, y_ps_e, y_ps_n]
                exact ⟨trivial, i2, i3, i4, i5⟩
              · simp (maxSteps := 1000000) (disch := omega) only [y_up_e, y_up_n, y_ps_e, y_ps_n]
                exact ⟨i1, i2, i3, i4, i5⟩
            · unfold y_vY at z5 ⊢
              simp (maxSteps := 1000000) (disch := omega) only [y_up_e, y_up_n, y_ps_e, y_ps_n, y_up_r]
              exact z5
            · simp (maxSteps := 1000000) (disch := omega) only [y_up_e, y_up_n, y_ps_e, y_ps_n, y_up_r]
            · simp (maxSteps := 1000000) (disch := omega) only [y_up_e, y_up_n, y_ps_e, y_ps_n]
      · exact no _ h (by decide)
      · exact no _ h (by decide)
    · have no : ∀ v : Int32, y_rf S x = v → ¬ v = 0 → ∃ v S', y_B q_HR_renew q_Mo_renew [.int x, .int 1, .int u] S v S' := by
        intro v hv h0
        refine ⟨v, S, y_B_no (fun d I J hZ => ?_) (fun d I J hZ => ?_)⟩
        · refine b_HR_renew _ _ _ _ _ _ _ ?_
          rw [if_neg (by decide), if_pos rfl]
          simp (maxSteps := 1000000) (disch := omega) only [sh_is0, sh_gI0, sh_wI0, sh_wZ0, sh_gR0, sh_gR1, sh_gR2, sh_lI0, sh_lI1, sh_lI2, sh_sI0, sh_sI1, sh_sI2, sh_len0, sh_len1, sh_len2, sh_lZ0, sh_sZ0, sh_gJ0, sh_wJ0, sh_lR0, sh_lJ0, sh_sJ0, y_eo, y_eb, y_Me_refusal _ (Or.inl rfl) J hZ.2.2.1 hok, y_eI, hv]
          rw [if_neg h0]
        · refine b_Mo_renew _ _ _ _ _ _ _ ?_
          rw [y_Mo_inI _ 1 0 1 (l := 0) (h := 1) (by decide) (by decide), hw, y_eI, if_neg (by decide)]
          simp (maxSteps := 1000000) (disch := omega) only [sh_is0, sh_gI0, sh_wI0, sh_wZ0, sh_gR0, sh_gR1, sh_gR2, sh_lI0, sh_lI1, sh_lI2, sh_sI0, sh_sI1, sh_sI2, sh_len0, sh_len1, sh_len2, sh_lZ0, sh_sZ0, sh_gJ0, sh_wJ0, sh_lR0, sh_lJ0, sh_sJ0, y_eo, y_eb, y_Mo_refusal1 _ J hZ.2.2.1 hok, y_eI, hv]
          rw [if_neg h0]
      rcases y_rf_c S x with ⟨h, m, hm, hm31, rfl, h6⟩ | h | h
      · cases hu : y_rg u 1 100 with
        | false =>
          refine ⟨-2, S, y_B_no (fun d I J hZ => ?_) (fun d I J hZ => ?_)⟩
          · refine b_HR_renew _ _ _ _ _ _ _ ?_
            rw [if_neg (by decide), if_pos rfl]
            simp (maxSteps := 1000000) (disch := omega) only [sh_is0, sh_gI0, sh_wI0, sh_wZ0, sh_gR0, sh_gR1, sh_gR2, sh_lI0, sh_lI1, sh_lI2, sh_sI0, sh_sI1, sh_sI2, sh_len0, sh_len1, sh_len2, sh_lZ0, sh_sZ0, sh_gJ0, sh_wJ0, sh_lR0, sh_lJ0, sh_sJ0, y_eo, y_eb, y_Me_refusal _ (Or.inl rfl) J hZ.2.2.1 hok, y_eI, h]
            rw [if_pos trivial, if_neg (by decide)]
            simp (maxSteps := 1000000) (disch := omega) only [sh_is0, sh_gI0, sh_wI0, sh_wZ0, sh_gR0, sh_gR1, sh_gR2, sh_lI0, sh_lI1, sh_lI2, sh_sI0, sh_sI1, sh_sI2, sh_len0, sh_len1, sh_len2, sh_lZ0, sh_sZ0, sh_gJ0, sh_wJ0, sh_lR0, sh_lJ0, sh_sJ0, y_eo, y_eb, y_HR_isSure, hu, y_eI]
            rw [if_pos (by decide)]
          · refine b_Mo_renew _ _ _ _ _ _ _ ?_
            rw [y_Mo_inI _ 1 0 1 (l := 0) (h := 1) (by decide) (by decide), hw, y_eI, if_neg (by decide)]
            simp (maxSteps := 1000000) (disch := omega) only [sh_is0, sh_gI0, sh_wI0, sh_wZ0, sh_gR0, sh_gR1, sh_gR2, sh_lI0, sh_lI1, sh_lI2, sh_sI0, sh_sI1, sh_sI2, sh_len0, sh_len1, sh_len2, sh_lZ0, sh_sZ0, sh_gJ0, sh_wJ0, sh_lR0, sh_lJ0, sh_sJ0, y_eo, y_eb, y_Mo_refusal1 _ J hZ.2.2.1 hok, y_eI, h]
            rw [if_pos trivial, if_neg (by decide)]
            simp (maxSteps := 1000000) (disch := omega) only [sh_is0, sh_gI0, sh_wI0, sh_wZ0, sh_gR0, sh_gR1, sh_gR2, sh_lI0, sh_lI1, sh_lI2, sh_sI0, sh_sI1, sh_sI2, sh_len0, sh_len1, sh_len2, sh_lZ0, sh_sZ0, sh_gJ0, sh_wJ0, sh_lR0, sh_lJ0, sh_sJ0, y_eo, y_eb, y_Mo_inI _ _ 1 100 (l := 1) (h := 100) (by decide) (by decide), hu, y_eI]
            rw [if_pos (by decide)]
        | true =>
          have u' := y_rgt.mp hu
          obtain ⟨un, _, rfl, hun⟩ := y_of u (by omega)
          have ho := y_rn_ok hok hox (k := 5) (m := m) (v := un) (by omega)
          refine ⟨nI (S 5 m), y_ps S 5 m un, fun d I J hZ => ?_, fun d I J hZ => ?_⟩
          · obtain ⟨z1, z2, hM, z5, z8⟩ := hZ
            obtain ⟨⟨c0, c1, c2, c3, c4⟩, z3, z4⟩ := id hM
            obtain ⟨m1, m2, m3, m4, m5⟩ := z4 m hm
            have hch : zC (d + 29) q_Me_change [.ref 2, .int (nI m), .int 1, .int (nI un)] (xz_SH, I, J) = some (some (.int (nI (S 5 m))), (xz_SH, xz_up I 6 m (nI un), J)) := by
              refine b_Me_change _ _ _ _ _ _ _ ?_
              rw [if_neg (by decide)]
              simp (maxSteps := 1000000) (disch := omega) only [sh_is0, sh_gI0, sh_wI0, sh_wZ0, sh_gR0, sh_gR1, sh_gR2, sh_lI0, sh_lI1, sh_lI2, sh_sI0, sh_sI1, sh_sI2, sh_len0, sh_len1, sh_len2, sh_lZ0, sh_sZ0, sh_gJ0, sh_wJ0, sh_lR0, sh_lJ0, sh_sJ0, y_eo, y_eb, y_eI, y_eJ, y_eR, y_eV, y_in, nI_clamp, cond_true, y_eqI, y_ltI, y_leI, y_lit, nI_toInt, if_true, if_false, if_pos, if_neg, y_bIt, y_bIf, y_band, m4]
            refine ⟨xz_up I 6 m (nI un), J, ?_, ⟨ho.1, ho.2, ⟨⟨?_, ?_, ?_, ?_, ?_⟩, ?_, fun i hi => ?_⟩, ?_, y_cst_of ?_ ?_ ?_ z8⟩, fun q hq => ?_, fun _ _ => rfl⟩
            · refine b_HR_renew _ _ _ _ _ _ _ ?_
              rw [if_neg (by decide), if_pos rfl]
              simp (maxSteps := 1000000) (disch := omega) only [sh_is0, sh_gI0, sh_wI0, sh_wZ0, sh_gR0, sh_gR1, sh_gR2, sh_lI0, sh_lI1, sh_lI2, sh_sI0, sh_sI1, sh_sI2, sh_len0, sh_len1, sh_len2, sh_lZ0, sh_sZ0, sh_gJ0, sh_wJ0, sh_lR0, sh_lJ0, sh_sJ0, y_eo, y_eb, y_Me_refusal _ (Or.inl rfl) J hM hok, y_eI, h]
              rw [if_pos trivial, if_neg (by decide)]
              simp (maxSteps := 1000000) (disch := omega) only [sh_is0, sh_gI0, sh_wI0, sh_wZ0, sh_gR0, sh_gR1, sh_gR2, sh_lI0, sh_lI1, sh_lI2, sh_sI0, sh_sI1, sh_sI2, sh_len0, sh_len1, sh_len2, sh_lZ0, sh_sZ0, sh_gJ0, sh_wJ0, sh_lR0, sh_lJ0, sh_sJ0, y_eo, y_eb, y_HR_isSure, hu, y_eI]
              rw [if_neg (by decide)]
              simp (maxSteps := 1000000) (disch := omega) only [sh_is0, sh_gI0, sh_wI0, sh_wZ0, sh_gR0, sh_gR1, sh_gR2, sh_lI0, sh_lI1, sh_lI2, sh_sI0, sh_sI1, sh_sI2, sh_len0, sh_len1, sh_len2, sh_lZ0, sh_sZ0, sh_gJ0, sh_wJ0, sh_lR0, sh_lJ0, sh_sJ0, y_eo, y_eb, hch, y_eI]
            · simp (maxSteps := 1000000) (disch := omega) only [y_up_e, y_up_n, y_ps_e, y_ps_n, c0]
            · simp (maxSteps := 1000000) (disch := omega) only [y_up_e, y_up_n, y_ps_e, y_ps_n, c1]
            · simp (maxSteps := 1000000) (disch := omega) only [y_up_e, y_up_n, y_ps_e, y_ps_n, c2]
            · simp (maxSteps := 1000000) (disch := omega) only [y_up_e, y_up_n, y_ps_e, y_ps_n, c3]
            · simp (maxSteps := 1000000) (disch := omega) only [y_up_e, y_up_n, y_ps_e, y_ps_n, c4]
            · simp (maxSteps := 1000000) (disch := omega) only [y_up_e, y_up_n, y_ps_e, y_ps_n, z3]
            · simp (disch := omega) only [y_ps_n] at hi
              obtain ⟨i1, i2, i3, i4, i5⟩ := z4 i hi
              by_cases e : i = m
              · subst e
                simp (maxSteps := 1000000) (disch := omega) only [y_up_e, y_up_n, y_ps_e, y_ps_n]
                exact ⟨i1, i2, i3, trivial, i5⟩
              · simp (maxSteps := 1000000) (disch := omega) only [y_up_e, y_up_n, y_ps_e, y_ps_n]
                exact ⟨i1, i2, i3, i4, i5⟩
            · unfold y_vX at z5 ⊢
              simp (maxSteps := 1000000) (disch := omega) only [y_up_e, y_up_n, y_ps_e, y_ps_n, y_up_r]
              exact z5
            · simp (maxSteps := 1000000) (disch := omega) only [y_up_e, y_up_n, y_ps_e, y_ps_n]
            · simp (maxSteps := 1000000) (disch := omega) only [y_up_e, y_up_n, y_ps_e, y_ps_n]
            · simp (maxSteps := 1000000) (disch := omega) only [y_up_e, y_up_n, y_ps_e, y_ps_n]
            · simp (maxSteps := 1000000) (disch := omega) only [y_up_e, y_up_n, y_ps_e, y_ps_n, y_up_r]
          · obtain ⟨z1, z2, hR, z5⟩ := hZ
            obtain ⟨⟨c0, c1, c2, c3, c4⟩, z3, z4⟩ := id hR
            obtain ⟨m1, m2, m3, m4, m5⟩ := z4 m hm
            refine ⟨xz_up I 97 m (nI un), J, ?_, ⟨ho.1, ho.2, ⟨⟨?_, ?_, ?_, ?_, ?_⟩, ?_, fun i hi => ?_⟩, ?_⟩, fun q hq _ _ => ?_, fun j hj => ?_, fun _ _ => rfl⟩
            · refine b_Mo_renew _ _ _ _ _ _ _ ?_
              rw [y_Mo_inI _ 1 0 1 (l := 0) (h := 1) (by decide) (by decide), hw, y_eI, if_neg (by decide)]
              simp (maxSteps := 1000000) (disch := omega) only [sh_is0, sh_gI0, sh_wI0, sh_wZ0, sh_gR0, sh_gR1, sh_gR2, sh_lI0, sh_lI1, sh_lI2, sh_sI0, sh_sI1, sh_sI2, sh_len0, sh_len1, sh_len2, sh_lZ0, sh_sZ0, sh_gJ0, sh_wJ0, sh_lR0, sh_lJ0, sh_sJ0, y_eo, y_eb, y_Mo_refusal1 _ J hR hok, y_eI, h]
              rw [if_pos trivial, if_neg (by decide)]
              simp (maxSteps := 1000000) (disch := omega) only [sh_is0, sh_gI0, sh_wI0, sh_wZ0, sh_gR0, sh_gR1, sh_gR2, sh_lI0, sh_lI1, sh_lI2, sh_sI0, sh_sI1, sh_sI2, sh_len0, sh_len1, sh_len2, sh_lZ0, sh_sZ0, sh_gJ0, sh_wJ0, sh_lR0, sh_lJ0, sh_sJ0, y_eo, y_eb, y_Mo_inI _ _ 1 100 (l := 1) (h := 100) (by decide) (by decide), hu, y_eI]
              rw [if_neg (by decide), if_neg (by decide)]
              simp (maxSteps := 1000000) (disch := omega) only [sh_is0, sh_gI0, sh_wI0, sh_wZ0, sh_gR0, sh_gR1, sh_gR2, sh_lI0, sh_lI1, sh_lI2, sh_sI0, sh_sI1, sh_sI2, sh_len0, sh_len1, sh_len2, sh_lZ0, sh_sZ0, sh_gJ0, sh_wJ0, sh_lR0, sh_lJ0, sh_sJ0, y_eo, y_eb, y_eI, y_eJ, y_eR, y_eV, y_in, nI_clamp, cond_true, y_eqI, y_ltI, y_leI, y_lit, nI_toInt, if_true, if_false, if_pos, if_neg, y_bIt, y_bIf, y_band, m4]
            · simp (maxSteps := 1000000) (disch := omega) only [y_up_e, y_up_n, y_ps_e, y_ps_n, c0]
            · simp (maxSteps := 1000000) (disch := omega) only [y_up_e, y_up_n, y_ps_e, y_ps_n, c1]
            · simp (maxSteps := 1000000) (disch := omega) only [y_up_e, y_up_n, y_ps_e, y_ps_n, c2]
            · simp (maxSteps := 1000000) (disch := omega) only [y_up_e, y_up_n, y_ps_e, y_ps_n, c3]
            · simp (maxSteps := 1000000) (disch := omega) only [y_up_e, y_up_n, y_ps_e, y_ps_n, c4]
            · simp (maxSteps := 1000000) (disch := omega) only [y_up_e, y_up_n, y_ps_e, y_ps_n, z3]
            · simp (disch := omega) only [y_ps_n] at hi
              obtain ⟨i1, i2, i3, i4, i5⟩ := z4 i hi
              by_cases e : i = m
              · subst e
                simp (maxSteps := 1000000) (disch := omega) only [y_up_e, y_up_n, y_ps_e, y_ps_n]
                exact ⟨i1, i2, i3, trivial, i5⟩
              · simp (maxSteps := 1000000) (disch := omega) only [y_up_e, y_up_n, y_ps_e, y_ps_n]
                exact ⟨i1, i2, i3, i4, i5⟩
            · unfold y_vY at z5 ⊢
              simp (maxSteps := 1000000) (disch := omega) only [y_up_e, y_up_n, y_ps_e, y_ps_n, y_up_r]
              exact z5
            · simp (maxSteps := 1000000) (disch := omega) only [y_up_e, y_up_n, y_ps_e, y_ps_n, y_up_r]
            · simp (maxSteps := 1000000) (disch := omega) only [y_up_e, y_up_n, y_ps_e, y_ps_n]
      · exact no _ h (by decide)
      · exact no _ h (by decide)
/-! between -/
def y_bt (S : y_S) (i j : Nat) : Nat → Nat → Int32 → Int32
  | 0, _, a => a
  | n + 1, m, a => y_bt S i j n (m + 1) (if S 6 m = 0 ∧ y_ot S m i = some j then a ||| ((1 : Int32) <<< (nI m &&& 31)) else a)
theorem y_HR_bt_l (d : Nat) {S : y_S} (hok : y_okM S) {I : Nat → Nat → Int32} (J : Nat → Nat → Int64) (hM : y_vM 1 S I) {i j : Nat} (hi : i < 6) (hj : j < 6) : ∀ (n m : Nat) (a : Int32), m + n = S 1 0 → zL (d + 1) q_HR_between 13 [(0, .ref 0), (1, .int (nI i)), (2, .int (nI j)), (3, .int a), (4, .int (nI m))] (xz_SH, I, J) = some (some (.int (y_bt S i j n m a)), (xz_SH, I, J))
  | 0, m, a, hm => by
    obtain ⟨k1, k2, k3, k4, k5, k6, k7, k8⟩ := id hok
    have e1 := hM.2.1
    refine b_HR_between_l13 _ _ _ _ _ _ _ _ ?_
    simp (maxSteps := 1000000) (disch := omega) only [sh_is0, sh_gI0, sh_wI0, sh_wZ0, sh_gR0, sh_gR1, sh_gR2, sh_lI0, sh_lI1, sh_lI2, sh_sI0, sh_sI1, sh_sI2, sh_len0, sh_len1, sh_len2, sh_lZ0, sh_sZ0, sh_gJ0, sh_wJ0, sh_lR0, sh_lJ0, sh_sJ0, y_eo, y_eb, y_eI, y_eJ, y_eR, y_eV, y_in, nI_clamp, cond_true, y_eqI, y_ltI, y_leI, y_lit, nI_toInt, if_true, if_false, if_pos, if_neg, y_bIt, y_bIf, y_band, e1]
    rfl
  | n + 1, m, a, hm => by
    obtain ⟨k1, k2, k3, k4, k5, k6, k7, k8⟩ := id hok
    have e1 := hM.2.1
    have ih := fun a => y_HR_bt_l d hok J hM hi hj n (m + 1) a (by omega)
    have hT := y_Me_isThere d (Or.inl rfl) J hM hok (m := m) (by omega)
    have hO := y_Me_other d (Or.inl rfl) J hM hok (m := m) (h := i) (by omega) (by omega)
    refine b_HR_between_l13 _ _ _ _ _ _ _ _ ?_
    show _ = some (some (Value.int (y_bt S i j n (m + 1) (if S 6 m = 0 ∧ y_ot S m i = some j then a ||| ((1 : Int32) <<< (nI m &&& 31)) else a))), ((xz_SH, I, J) : xz_M))
    rw [← ih]
    by_cases e : S 6 m = 0
    · have e' : (S 6 m == 0) = true := by simpa using e
      rw [e'] at hT
      cases e2 : y_ot S m i with
      | none =>
        rw [e2] at hO
        rw [if_neg (by rintro ⟨_, z⟩; cases z)]
        simp (maxSteps := 1000000) (disch := omega) only [sh_is0, sh_gI0, sh_wI0, sh_wZ0, sh_gR0, sh_gR1, sh_gR2, sh_lI0, sh_lI1, sh_lI2, sh_sI0, sh_sI1, sh_sI2, sh_len0, sh_len1, sh_len2, sh_lZ0, sh_sZ0, sh_gJ0, sh_wJ0, sh_lR0, sh_lJ0, sh_sJ0, y_eo, y_eb, y_eI, y_eJ, y_eR, y_eV, y_in, nI_clamp, cond_true, y_eqI, y_ltI, y_leI, y_lit, nI_toInt, if_true, if_false, if_pos, if_neg, y_bIt, y_bIf, y_band, e1, hT, hO, y_o1n, y_1]
      | some x =>
        have hx := y_ot_lt hok (show m < S 1 0 by omega) e2
        rw [e2] at hO
        by_cases e3 : x = j
        · rw [if_pos ⟨e, by rw [e3]⟩]
          simp (maxSteps := 1000000) (disch := omega) only [sh_is0, sh_gI0, sh_wI0, sh_wZ0, sh_gR0, sh_gR1, sh_gR2, sh_lI0, sh_lI1, sh_lI2, sh_sI0, sh_sI1, sh_sI2, sh_len0, sh_len1, sh_len2, sh_lZ0, sh_sZ0, sh_gJ0, sh_wJ0, sh_lR0, sh_lJ0, sh_sJ0, y_eo, y_eb, y_eI, y_eJ, y_eR, y_eV, y_in, nI_clamp, cond_true, y_eqI, y_ltI, y_leI, y_lit, nI_toInt, if_true, if_false, if_pos, if_neg, y_bIt, y_bIf, y_band, e1, hT, hO, y_o1s, y_1, e3]
        · rw [if_neg (by rintro ⟨_, z⟩; cases z; exact e3 rfl)]
          simp (maxSteps := 1000000) (disch := omega) only [sh_is0, sh_gI0, sh_wI0, sh_wZ0, sh_gR0, sh_gR1, sh_gR2, sh_lI0, sh_lI1, sh_lI2, sh_sI0, sh_sI1, sh_sI2, sh_len0, sh_len1, sh_len2, sh_lZ0, sh_sZ0, sh_gJ0, sh_wJ0, sh_lR0, sh_lJ0, sh_sJ0, y_eo, y_eb, y_eI, y_eJ, y_eR, y_eV, y_in, nI_clamp, cond_true, y_eqI, y_ltI, y_leI, y_lit, nI_toInt, if_true, if_false, if_pos, if_neg, y_bIt, y_bIf, y_band, e1, hT, hO, y_o1s, y_1]
    · have e' : (S 6 m == 0) = false := by simpa using e
      rw [e'] at hT
      rw [if_neg (by rintro ⟨z, _⟩; exact e z)]
      simp (maxSteps := 1000000) (disch := omega) only [sh_is0, sh_gI0, sh_wI0, sh_wZ0, sh_gR0, sh_gR1, sh_gR2, sh_lI0, sh_lI1, sh_lI2, sh_sI0, sh_sI1, sh_sI2, sh_len0, sh_len1, sh_len2, sh_lZ0, sh_sZ0, sh_gJ0, sh_wJ0, sh_lR0, sh_lJ0, sh_sJ0, y_eo, y_eb, y_eI, y_eJ, y_eR, y_eV, y_in, nI_clamp, cond_true, y_eqI, y_ltI, y_leI, y_lit, nI_toInt, if_true, if_false, if_pos, if_neg, y_bIt, y_bIf, y_band, e1, hT, y_1]
theorem y_Mo_bt_l (d : Nat) {S : y_S} (hok : y_okM S) {I : Nat → Nat → Int32} (J : Nat → Nat → Int64) (hR : y_vR S I) {i j : Nat} (hi : i < 6) (hj : j < 6) : ∀ (n m : Nat) (a : Int32), m + n = S 1 0 → zL (d + 1) q_Mo_between 12 [(0, .ref 92), (1, .int (nI i)), (2, .int (nI j)), (3, .int a), (4, .int (nI m))] (xz_SH, I, J) = some (some (.int (y_bt S i j n m a)), (xz_SH, I, J))
  | 0, m, a, hm => by
    obtain ⟨k1, k2, k3, k4, k5, k6, k7, k8⟩ := id hok
    refine b_Mo_between_l12 _ _ _ _ _ _ _ _ ?_
    simp (maxSteps := 1000000) (disch := omega) only [sh_is0, sh_gI0, sh_wI0, sh_wZ0, sh_gR0, sh_gR1, sh_gR2, sh_lI0, sh_lI1, sh_lI2, sh_sI0, sh_sI1, sh_sI2, sh_len0, sh_len1, sh_len2, sh_lZ0, sh_sZ0, sh_gJ0, sh_wJ0, sh_lR0, sh_lJ0, sh_sJ0, y_eo, y_eb, y_eI, y_eJ, y_eR, y_eV, y_in, nI_clamp, cond_true, y_eqI, y_ltI, y_leI, y_lit, nI_toInt, if_true, if_false, if_pos, if_neg, y_bIt, y_bIf, y_band, hR.2.1]
    rfl
  | n + 1, m, a, hm => by
    obtain ⟨k1, k2, k3, k4, k5, k6, k7, k8⟩ := id hok
    have ih := fun a => y_Mo_bt_l d hok J hR hi hj n (m + 1) a (by omega)
    obtain ⟨m1, m2, m3, m4, m5⟩ := hR.2.2 m (by omega)
    have g7 := (k8 m (by omega)).2.2.2.2.2.2
    have hO := y_Mo_otherBy d J hR hok (m := m) (h := i) (by omega) (by omega)
    refine b_Mo_between_l12 _ _ _ _ _ _ _ _ ?_
    show _ = some (some (Value.int (y_bt S i j n (m + 1) (if S 6 m = 0 ∧ y_ot S m i = some j then a ||| ((1 : Int32) <<< (nI m &&& 31)) else a))), ((xz_SH, I, J) : xz_M))
    rw [← ih]
    by_cases e : S 6 m = 0
    · cases e2 : y_ot S m i with
      | none =>
        rw [e2] at hO
        rw [if_neg (by rintro ⟨_, z⟩; cases z)]
        simp (maxSteps := 1000000) (disch := omega) only [sh_is0, sh_gI0, sh_wI0, sh_wZ0, sh_gR0, sh_gR1, sh_gR2, sh_lI0, sh_lI1, sh_lI2, sh_sI0, sh_sI1, sh_sI2, sh_len0, sh_len1, sh_len2, sh_lZ0, sh_sZ0, sh_gJ0, sh_wJ0, sh_lR0, sh_lJ0, sh_sJ0, y_eo, y_eb, y_eI, y_eJ, y_eR, y_eV, y_in, nI_clamp, cond_true, y_eqI, y_ltI, y_leI, y_lit, nI_toInt, if_true, if_false, if_pos, if_neg, y_bIt, y_bIf, y_band, hR.2.1, m5, e, hO, y_o1n, y_1]
      | some x =>
        have hx := y_ot_lt hok (show m < S 1 0 by omega) e2
        rw [e2] at hO
        by_cases e3 : x = j
        · rw [if_pos ⟨e, by rw [e3]⟩]
          simp (maxSteps := 1000000) (disch := omega) only [sh_is0, sh_gI0, sh_wI0, sh_wZ0, sh_gR0, sh_gR1, sh_gR2, sh_lI0, sh_lI1, sh_lI2, sh_sI0, sh_sI1, sh_sI2, sh_len0, sh_len1, sh_len2, sh_lZ0, sh_sZ0, sh_gJ0, sh_wJ0, sh_lR0, sh_lJ0, sh_sJ0, y_eo, y_eb, y_eI, y_eJ, y_eR, y_eV, y_in, nI_clamp, cond_true, y_eqI, y_ltI, y_leI, y_lit, nI_toInt, if_true, if_false, if_pos, if_neg, y_bIt, y_bIf, y_band, hR.2.1, m5, e, hO, y_o1s, y_1, e3]
        · rw [if_neg (by rintro ⟨_, z⟩; cases z; exact e3 rfl)]
          simp (maxSteps := 1000000) (disch := omega) only [sh_is0, sh_gI0, sh_wI0, sh_wZ0, sh_gR0, sh_gR1, sh_gR2, sh_lI0, sh_lI1, sh_lI2, sh_sI0, sh_sI1, sh_sI2, sh_len0, sh_len1, sh_len2, sh_lZ0, sh_sZ0, sh_gJ0, sh_wJ0, sh_lR0, sh_lJ0, sh_sJ0, y_eo, y_eb, y_eI, y_eJ, y_eR, y_eV, y_in, nI_clamp, cond_true, y_eqI, y_ltI, y_leI, y_lit, nI_toInt, if_true, if_false, if_pos, if_neg, y_bIt, y_bIf, y_band, hR.2.1, m5, e, hO, y_o1s, y_1]
    · have e' : S 6 m = 1 := by omega
      rw [if_neg (by rintro ⟨z, _⟩; exact e z)]
      simp (maxSteps := 1000000) (disch := omega) only [sh_is0, sh_gI0, sh_wI0, sh_wZ0, sh_gR0, sh_gR1, sh_gR2, sh_lI0, sh_lI1, sh_lI2, sh_sI0, sh_sI1, sh_sI2, sh_len0, sh_len1, sh_len2, sh_lZ0, sh_sZ0, sh_gJ0, sh_wJ0, sh_lR0, sh_lJ0, sh_sJ0, y_eo, y_eb, y_eI, y_eJ, y_eR, y_eV, y_in, nI_clamp, cond_true, y_eqI, y_ltI, y_leI, y_lit, nI_toInt, if_true, if_false, if_pos, if_neg, y_bIt, y_bIf, y_band, hR.2.1, m5, e', y_1]
theorem y_o_between (S : y_S) (hok : y_okM S) (i j : Int32) : ∃ v S', y_B q_HR_between q_Mo_between [.int i, .int j] S v S' := by
  obtain ⟨k1, k2, k3, k4, k5, k6, k7, k8⟩ := id hok
  cases h : y_two S i j with
  | false =>
    refine ⟨-1, S, y_B_no (fun d I J hZ => ?_) (fun d I J hZ => ?_)⟩
    · refine b_HR_between _ _ _ _ _ _ ?_
      simp (maxSteps := 1000000) (disch := omega) only [sh_is0, sh_gI0, sh_wI0, sh_wZ0, sh_gR0, sh_gR1, sh_gR2, sh_lI0, sh_lI1, sh_lI2, sh_sI0, sh_sI1, sh_sI2, sh_len0, sh_len1, sh_len2, sh_lZ0, sh_sZ0, sh_gJ0, sh_wJ0, sh_lR0, sh_lJ0, sh_sJ0, y_eo, y_eb, y_eI, y_eJ, y_eR, y_eV, y_in, nI_clamp, cond_true, y_eqI, y_ltI, y_leI, y_lit, nI_toInt, if_true, if_false, if_pos, if_neg, y_bIt, y_bIf, y_band, y_Se_isPair _ (Or.inl rfl) J hZ.2.2.1.1.1 k2, h]
    · refine b_Mo_between _ _ _ _ _ _ ?_
      simp (maxSteps := 1000000) (disch := omega) only [sh_is0, sh_gI0, sh_wI0, sh_wZ0, sh_gR0, sh_gR1, sh_gR2, sh_lI0, sh_lI1, sh_lI2, sh_sI0, sh_sI1, sh_sI2, sh_len0, sh_len1, sh_len2, sh_lZ0, sh_sZ0, sh_gJ0, sh_wJ0, sh_lR0, sh_lJ0, sh_sJ0, y_eo, y_eb, y_eI, y_eJ, y_eR, y_eV, y_in, nI_clamp, cond_true, y_eqI, y_ltI, y_leI, y_lit, nI_toInt, if_true, if_false, if_pos, if_neg, y_bIt, y_bIf, y_band, y_Mo_areTwo _ J hZ.2.2.1.1.1 k1 k2, h]
  | true =>
    have hij : (0 ≤ i.toInt ∧ i.toInt ≤ (S 0 0 : Int) - 1) ∧ (0 ≤ j.toInt ∧ j.toInt ≤ (S 0 0 : Int) - 1) ∧ i.toInt ≠ j.toInt := by
      unfold y_two at h
      simp only [Bool.and_eq_true, decide_eq_true_eq, y_rgt] at h
      exact h
    obtain ⟨im, _, rfl, hin⟩ := y_of i hij.1.1
    obtain ⟨jn, _, rfl, hjn⟩ := y_of j hij.2.1.1
    refine ⟨y_bt S im jn (S 1 0) 0 0, S, y_B_no (fun d I J hZ => ?_) (fun d I J hZ => ?_)⟩
    · refine b_HR_between _ _ _ _ _ _ ?_
      simp (maxSteps := 1000000) (disch := omega) only [sh_is0, sh_gI0, sh_wI0, sh_wZ0, sh_gR0, sh_gR1, sh_gR2, sh_lI0, sh_lI1, sh_lI2, sh_sI0, sh_sI1, sh_sI2, sh_len0, sh_len1, sh_len2, sh_lZ0, sh_sZ0, sh_gJ0, sh_wJ0, sh_lR0, sh_lJ0, sh_sJ0, y_eo, y_eb, y_eI, y_eJ, y_eR, y_eV, y_in, nI_clamp, cond_true, y_eqI, y_ltI, y_leI, y_lit, nI_toInt, if_true, if_false, if_pos, if_neg, y_bIt, y_bIf, y_band, y_Se_isPair _ (Or.inl rfl) J hZ.2.2.1.1.1 k2, h]
      exact y_HR_bt_l (d + 28) hok J hZ.2.2.1 (by omega) (by omega) (S 1 0) 0 0 (by omega)
    · refine b_Mo_between _ _ _ _ _ _ ?_
      simp (maxSteps := 1000000) (disch := omega) only [sh_is0, sh_gI0, sh_wI0, sh_wZ0, sh_gR0, sh_gR1, sh_gR2, sh_lI0, sh_lI1, sh_lI2, sh_sI0, sh_sI1, sh_sI2, sh_len0, sh_len1, sh_len2, sh_lZ0, sh_sZ0, sh_gJ0, sh_wJ0, sh_lR0, sh_lJ0, sh_sJ0, y_eo, y_eb, y_eI, y_eJ, y_eR, y_eV, y_in, nI_clamp, cond_true, y_eqI, y_ltI, y_leI, y_lit, nI_toInt, if_true, if_false, if_pos, if_neg, y_bIt, y_bIf, y_band, y_Mo_areTwo _ J hZ.2.2.1.1.1 k1 k2, h]
      exact y_Mo_bt_l (d + 28) hok J hZ.2.2.1 (by omega) (by omega) (S 1 0) 0 0 (by omega)
theorem y_HR_refusalOf (d : Nat) {S : y_S} {I : Nat → Nat → Int32} (J : Nat → Nat → Int64) (h0 : I 1 0 = nI (S 0 0)) (h6 : S 0 0 ≤ 6) (x t : Int32) : zC (d + 2) q_HR_refusalOf [.ref 0, .int x, .int t] (xz_SH, I, J) = some (some (.int (if y_rg x 0 (S 0 0 - 1) = true then (if y_rg t 0 99 = true then 0 else -2) else -1)), (xz_SH, I, J)) := by
  refine b_HR_refusalOf _ _ _ _ _ _ ?_
  cases h : y_rg x 0 (S 0 0 - 1) with
  | false => simp (maxSteps := 1000000) (disch := omega) only [sh_is0, sh_gI0, sh_wI0, sh_wZ0, sh_gR0, sh_gR1, sh_gR2, sh_lI0, sh_lI1, sh_lI2, sh_sI0, sh_sI1, sh_sI2, sh_len0, sh_len1, sh_len2, sh_lZ0, sh_sZ0, sh_gJ0, sh_wJ0, sh_lR0, sh_lJ0, sh_sJ0, y_eo, y_eb, y_eI, y_eJ, y_eR, y_eV, y_in, nI_clamp, cond_true, y_eqI, y_ltI, y_leI, y_lit, nI_toInt, if_true, if_false, if_pos, if_neg, y_bIt, y_bIf, y_band, y_Se_isPerson _ (Or.inl rfl) J h0 h6, h, Bool.false_eq_true]
  | true =>
    cases h2 : y_rg t 0 99 with
    | false => simp (maxSteps := 1000000) (disch := omega) only [sh_is0, sh_gI0, sh_wI0, sh_wZ0, sh_gR0, sh_gR1, sh_gR2, sh_lI0, sh_lI1, sh_lI2, sh_sI0, sh_sI1, sh_sI2, sh_len0, sh_len1, sh_len2, sh_lZ0, sh_sZ0, sh_gJ0, sh_wJ0, sh_lR0, sh_lJ0, sh_sJ0, y_eo, y_eb, y_eI, y_eJ, y_eR, y_eV, y_in, nI_clamp, cond_true, y_eqI, y_ltI, y_leI, y_lit, nI_toInt, if_true, if_false, if_pos, if_neg, y_bIt, y_bIf, y_band, y_Se_isPerson _ (Or.inl rfl) J h0 h6, h, y_HR_isTime, h2, Bool.false_eq_true]
    | true => simp (maxSteps := 1000000) (disch := omega) only [sh_is0, sh_gI0, sh_wI0, sh_wZ0, sh_gR0, sh_gR1, sh_gR2, sh_lI0, sh_lI1, sh_lI2, sh_sI0, sh_sI1, sh_sI2, sh_len0, sh_len1, sh_len2, sh_lZ0, sh_sZ0, sh_gJ0, sh_wJ0, sh_lR0, sh_lJ0, sh_sJ0, y_eo, y_eb, y_eI, y_eJ, y_eR, y_eV, y_in, nI_clamp, cond_true, y_eqI, y_ltI, y_leI, y_lit, nI_toInt, if_true, if_false, if_pos, if_neg, y_bIt, y_bIf, y_band, y_Se_isPerson _ (Or.inl rfl) J h0 h6, h, y_HR_isTime, h2]
theorem y_Ro_add_seen (d : Nat) {I : Nat → Nat → Int32} (J : Nat → Nat → Int64) {c : Nat} (h : I 8 0 = nI c) (h1 : I 8 1 = 6) (hc : c ≤ 6) (x y z : Int32) : zC (d + 1) q_Ro_add [.ref 8, .int x, .int y, .int z] (xz_SH, I, J) = if c < 6 then some (some (.int (nI (c + 1))), (xz_SH, xz_up (xz_up (xz_up (xz_up I 9 c x) 10 c y) 11 c z) 8 0 (nI (c + 1)), J)) else some (some (.int (-4)), (xz_SH, I, J)) := by
  by_cases e : c < 6
  · rw [if_pos e]
    refine b_Ro_add _ _ _ _ _ _ _ ?_
    simp (maxSteps := 1000000) (disch := omega) only [sh_is0, sh_gI0, sh_wI0, sh_wZ0, sh_gR0, sh_gR1, sh_gR2, sh_lI0, sh_lI1, sh_lI2, sh_sI0, sh_sI1, sh_sI2, sh_len0, sh_len1, sh_len2, sh_lZ0, sh_sZ0, sh_gJ0, sh_wJ0, sh_lR0, sh_lJ0, sh_sJ0, y_eo, y_eb, y_eI, y_eJ, y_eR, y_eV, y_in, nI_clamp, cond_true, y_eqI, y_ltI, y_leI, y_lit, nI_toInt, if_true, if_false, if_pos, if_neg, y_bIt, y_bIf, y_band, h, h1, y_up_n, y_up_e, y_1]
  · rw [if_neg e]
    refine b_Ro_add _ _ _ _ _ _ _ ?_
    simp (maxSteps := 1000000) (disch := omega) only [sh_is0, sh_gI0, sh_wI0, sh_wZ0, sh_gR0, sh_gR1, sh_gR2, sh_lI0, sh_lI1, sh_lI2, sh_sI0, sh_sI1, sh_sI2, sh_len0, sh_len1, sh_len2, sh_lZ0, sh_sZ0, sh_gJ0, sh_wJ0, sh_lR0, sh_lJ0, sh_sJ0, y_eo, y_eb, y_eI, y_eJ, y_eR, y_eV, y_in, nI_clamp, cond_true, y_eqI, y_ltI, y_leI, y_lit, nI_toInt, if_true, if_false, if_pos, if_neg, y_bIt, y_bIf, y_band, h, h1]
theorem y_Ro_add_events (d : Nat) {I : Nat → Nat → Int32} (J : Nat → Nat → Int64) {c : Nat} (h : I 12 0 = nI c) (h1 : I 12 1 = 8) (hc : c ≤ 8) (x y z : Int32) : zC (d + 1) q_Ro_add [.ref 12, .int x, .int y, .int z] (xz_SH, I, J) = if c < 8 then some (some (.int (nI (c + 1))), (xz_SH, xz_up (xz_up (xz_up (xz_up I 13 c x) 14 c y) 15 c z) 12 0 (nI (c + 1)), J)) else some (some (.int (-4)), (xz_SH, I, J)) := by
  by_cases e : c < 8
  · rw [if_pos e]
    refine b_Ro_add _ _ _ _ _ _ _ ?_
    simp (maxSteps := 1000000) (disch := omega) only [sh_is0, sh_gI0, sh_wI0, sh_wZ0, sh_gR0, sh_gR1, sh_gR2, sh_lI0, sh_lI1, sh_lI2, sh_sI0, sh_sI1, sh_sI2, sh_len0, sh_len1, sh_len2, sh_lZ0, sh_sZ0, sh_gJ0, sh_wJ0, sh_lR0, sh_lJ0, sh_sJ0, y_eo, y_eb, y_eI, y_eJ, y_eR, y_eV, y_in, nI_clamp, cond_true, y_eqI, y_ltI, y_leI, y_lit, nI_toInt, if_true, if_false, if_pos, if_neg, y_bIt, y_bIf, y_band, h, h1, y_up_n, y_up_e, y_1]
  · rw [if_neg e]
    refine b_Ro_add _ _ _ _ _ _ _ ?_
    simp (maxSteps := 1000000) (disch := omega) only [sh_is0, sh_gI0, sh_wI0, sh_wZ0, sh_gR0, sh_gR1, sh_gR2, sh_lI0, sh_lI1, sh_lI2, sh_sI0, sh_sI1, sh_sI2, sh_len0, sh_len1, sh_len2, sh_lZ0, sh_sZ0, sh_gJ0, sh_wJ0, sh_lR0, sh_lJ0, sh_sJ0, y_eo, y_eb, y_eI, y_eJ, y_eR, y_eV, y_in, nI_clamp, cond_true, y_eqI, y_ltI, y_leI, y_lit, nI_toInt, if_true, if_false, if_pos, if_neg, y_bIt, y_bIf, y_band, h, h1]
theorem y_Ro_add_book (d : Nat) {I : Nat → Nat → Int32} (J : Nat → Nat → Int64) {c : Nat} (h : I 16 0 = nI c) (h1 : I 16 1 = 8) (hc : c ≤ 8) (x y z : Int32) : zC (d + 1) q_Ro_add [.ref 16, .int x, .int y, .int z] (xz_SH, I, J) = if c < 8 then some (some (.int (nI (c + 1))), (xz_SH, xz_up (xz_up (xz_up (xz_up I 17 c x) 18 c y) 19 c z) 16 0 (nI (c + 1)), J)) else some (some (.int (-4)), (xz_SH, I, J)) := by
  by_cases e : c < 8
  · rw [if_pos e]
    refine b_Ro_add _ _ _ _ _ _ _ ?_
    simp (maxSteps := 1000000) (disch := omega) only [sh_is0, sh_gI0, sh_wI0, sh_wZ0, sh_gR0, sh_gR1, sh_gR2, sh_lI0, sh_lI1, sh_lI2, sh_sI0, sh_sI1, sh_sI2, sh_len0, sh_len1, sh_len2, sh_lZ0, sh_sZ0, sh_gJ0, sh_wJ0, sh_lR0, sh_lJ0, sh_sJ0, y_eo, y_eb, y_eI, y_eJ, y_eR, y_eV, y_in, nI_clamp, cond_true, y_eqI, y_ltI, y_leI, y_lit, nI_toInt, if_true, if_false, if_pos, if_neg, y_bIt, y_bIf, y_band, h, h1, y_up_n, y_up_e, y_1]
  · rw [if_neg e]
    refine b_Ro_add _ _ _ _ _ _ _ ?_
    simp (maxSteps := 1000000) (disch := omega) only [sh_is0, sh_gI0, sh_wI0, sh_wZ0, sh_gR0, sh_gR1, sh_gR2, sh_lI0, sh_lI1, sh_lI2, sh_sI0, sh_sI1, sh_sI2, sh_len0, sh_len1, sh_len2, sh_lZ0, sh_sZ0, sh_gJ0, sh_wJ0, sh_lR0, sh_lJ0, sh_sJ0, y_eo, y_eb, y_eI, y_eJ, y_eR, y_eV, y_in, nI_clamp, cond_true, y_eqI, y_ltI, y_leI, y_lit, nI_toInt, if_true, if_false, if_pos, if_neg, y_bIt, y_bIf, y_band, h, h1]
