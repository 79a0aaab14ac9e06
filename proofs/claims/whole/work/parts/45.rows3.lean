/-! see, event, book -/
theorem y_m1I (x : Int32) : (x = -1) ↔ x.toInt = -1 := by
  rw [y_eqI]
  simp only [y_lit]
theorem y_o_see (S : y_S) (hok : y_okM S) (hox : y_okX S) (x t b : Int32) (hb : b = 0 ∨ b = 1) : ∃ v S', y_B q_HR_see q_Mo_see [.int x, .int t, .int b] S v S' := by
  obtain ⟨k1, k2, k3, k4, k5, k6, k7, k8⟩ := id hok
  by_cases hx : x = -1
  · subst hx
    refine ⟨0, y_ps S 7 0 0, fun d I J hZ => ?_, fun d I J hZ => ?_⟩
    · obtain ⟨z1, z2, hM, hX, z8⟩ := hZ
      refine ⟨xz_up I 8 0 0, J, ?_, ⟨?_, ?_, ?_, ?_, y_cst_of ?_ ?_ ?_ z8⟩, fun q hq => ?_, fun _ _ => rfl⟩
      · refine b_HR_see _ _ _ _ _ _ _ ?_
        rw [if_pos rfl]
        simp (maxSteps := 1000000) (disch := omega) only [sh_is0, sh_gI0, sh_wI0, sh_wZ0, sh_gR0, sh_gR1, sh_gR2, sh_lI0, sh_lI1, sh_lI2, sh_sI0, sh_sI1, sh_sI2, sh_len0, sh_len1, sh_len2, sh_lZ0, sh_sZ0, sh_gJ0, sh_wJ0, sh_lR0, sh_lJ0, sh_sJ0, y_eo, y_eb, (y_Ro_clear (d + 28) _ _).1, (y_Ro_clear (d + 28) _ _).2.1, (y_Ro_clear (d + 28) _ _).2.2, y_eI]
      · unfold y_okM at z1 ⊢; simp (maxSteps := 1000000) (disch := omega) only [y_up_e, y_up_n, y_ps_e, y_ps_n]; exact z1
      · unfold y_okX at z2 ⊢
        simp (maxSteps := 1000000) (disch := omega) only [y_up_e, y_up_n, y_ps_e, y_ps_n]
        obtain ⟨a1, a2, a3⟩ := z2
        exact ⟨⟨by omega, fun r hr => by omega⟩, a2, a3⟩
      · unfold y_vM at hM ⊢; simp (maxSteps := 1000000) (disch := omega) only [y_up_e, y_up_n, y_ps_e, y_ps_n, y_up_r]; exact hM
      · unfold y_vX at hX ⊢
        simp (maxSteps := 1000000) (disch := omega) only [y_up_e, y_up_n, y_ps_e, y_ps_n, y_up_r]
        obtain ⟨a1, a2, a3⟩ := hX
        exact ⟨⟨rfl, fun r hr => by omega⟩, a2, a3⟩
      · simp (maxSteps := 1000000) (disch := omega) only [y_up_e, y_up_n, y_ps_e, y_ps_n]
      · simp (maxSteps := 1000000) (disch := omega) only [y_up_e, y_up_n, y_ps_e, y_ps_n]
      · simp (maxSteps := 1000000) (disch := omega) only [y_up_e, y_up_n, y_ps_e, y_ps_n]
      · simp (maxSteps := 1000000) (disch := omega) only [y_up_e, y_up_n, y_ps_e, y_ps_n, y_up_r]
    · obtain ⟨z1, z2, hR, hY⟩ := hZ
      refine ⟨xz_up I 92 11 0, J, ?_, ⟨?_, ?_, ?_, ?_⟩, fun q hq _ _ => ?_, fun j hj => ?_, fun _ _ => rfl⟩
      · refine b_Mo_see _ _ _ _ _ _ _ ?_
        rw [if_pos rfl]
        simp (maxSteps := 1000000) (disch := omega) only [sh_is0, sh_gI0, sh_wI0, sh_wZ0, sh_gR0, sh_gR1, sh_gR2, sh_lI0, sh_lI1, sh_lI2, sh_sI0, sh_sI1, sh_sI2, sh_len0, sh_len1, sh_len2, sh_lZ0, sh_sZ0, sh_gJ0, sh_wJ0, sh_lR0, sh_lJ0, sh_sJ0, y_eo, y_eb]
      · unfold y_okM at z1 ⊢; simp (maxSteps := 1000000) (disch := omega) only [y_up_e, y_up_n, y_ps_e, y_ps_n]; exact z1
      · unfold y_okX at z2 ⊢
        simp (maxSteps := 1000000) (disch := omega) only [y_up_e, y_up_n, y_ps_e, y_ps_n]
        obtain ⟨a1, a2, a3⟩ := z2
        exact ⟨⟨by omega, fun r hr => by omega⟩, a2, a3⟩
      · unfold y_vR at hR ⊢; simp (maxSteps := 1000000) (disch := omega) only [y_up_e, y_up_n, y_ps_e, y_ps_n, y_up_r]; exact hR
      · unfold y_vY at hY ⊢
        simp (maxSteps := 1000000) (disch := omega) only [y_up_e, y_up_n, y_ps_e, y_ps_n, y_up_r]
        obtain ⟨a1, a2, a3⟩ := hY
        exact ⟨⟨rfl, fun r hr => by omega⟩, a2, a3⟩
      · simp (maxSteps := 1000000) (disch := omega) only [y_up_e, y_up_n, y_ps_e, y_ps_n, y_up_r]
      · simp (maxSteps := 1000000) (disch := omega) only [y_up_e, y_up_n, y_ps_e, y_ps_n]
  · cases h : y_rg x 0 (S 0 0 - 1) with
    | false =>
      refine ⟨-1, S, y_B_no (fun d I J hZ => ?_) (fun d I J hZ => ?_)⟩
      · refine b_HR_see _ _ _ _ _ _ _ ?_
        rw [if_neg hx]
        simp (maxSteps := 1000000) (disch := omega) only [sh_is0, sh_gI0, sh_wI0, sh_wZ0, sh_gR0, sh_gR1, sh_gR2, sh_lI0, sh_lI1, sh_lI2, sh_sI0, sh_sI1, sh_sI2, sh_len0, sh_len1, sh_len2, sh_lZ0, sh_sZ0, sh_gJ0, sh_wJ0, sh_lR0, sh_lJ0, sh_sJ0, y_eo, y_eb, y_HR_refusalOf (d + 27) J hZ.2.2.1.1.1 k2, h, y_eI, Bool.false_eq_true, if_false]
        rw [if_neg (by decide)]
      · refine b_Mo_see _ _ _ _ _ _ _ ?_
        rw [if_neg hx]
        simp (maxSteps := 1000000) (disch := omega) only [sh_is0, sh_gI0, sh_wI0, sh_wZ0, sh_gR0, sh_gR1, sh_gR2, sh_lI0, sh_lI1, sh_lI2, sh_sI0, sh_sI1, sh_sI2, sh_len0, sh_len1, sh_len2, sh_lZ0, sh_sZ0, sh_gJ0, sh_wJ0, sh_lR0, sh_lJ0, sh_sJ0, y_eo, y_eb, y_Mo_isPerson _ J hZ.2.2.1.1.1 k1 k2, h, y_eI]
        rw [if_pos (by decide)]
    | true =>
      cases h2 : y_rg t 0 99 with
      | false =>
        refine ⟨-2, S, y_B_no (fun d I J hZ => ?_) (fun d I J hZ => ?_)⟩
        · refine b_HR_see _ _ _ _ _ _ _ ?_
          rw [if_neg hx]
          simp (maxSteps := 1000000) (disch := omega) only [sh_is0, sh_gI0, sh_wI0, sh_wZ0, sh_gR0, sh_gR1, sh_gR2, sh_lI0, sh_lI1, sh_lI2, sh_sI0, sh_sI1, sh_sI2, sh_len0, sh_len1, sh_len2, sh_lZ0, sh_sZ0, sh_gJ0, sh_wJ0, sh_lR0, sh_lJ0, sh_sJ0, y_eo, y_eb, y_HR_refusalOf (d + 27) J hZ.2.2.1.1.1 k2, h, h2, y_eI, Bool.false_eq_true, if_false, if_true]
          rw [if_neg (by decide)]
        · refine b_Mo_see _ _ _ _ _ _ _ ?_
          rw [if_neg hx]
          simp (maxSteps := 1000000) (disch := omega) only [sh_is0, sh_gI0, sh_wI0, sh_wZ0, sh_gR0, sh_gR1, sh_gR2, sh_lI0, sh_lI1, sh_lI2, sh_sI0, sh_sI1, sh_sI2, sh_len0, sh_len1, sh_len2, sh_lZ0, sh_sZ0, sh_gJ0, sh_wJ0, sh_lR0, sh_lJ0, sh_sJ0, y_eo, y_eb, y_Mo_isPerson _ J hZ.2.2.1.1.1 k1 k2, h, y_eI]
          rw [if_neg (by decide)]
          simp (maxSteps := 1000000) (disch := omega) only [sh_is0, sh_gI0, sh_wI0, sh_wZ0, sh_gR0, sh_gR1, sh_gR2, sh_lI0, sh_lI1, sh_lI2, sh_sI0, sh_sI1, sh_sI2, sh_len0, sh_len1, sh_len2, sh_lZ0, sh_sZ0, sh_gJ0, sh_wJ0, sh_lR0, sh_lJ0, sh_sJ0, y_eo, y_eb, y_Mo_isTime, h2, y_eI]
          rw [if_pos (by decide)]
      | true =>
        have x' := y_rgt.mp h
        have t' := y_rgt.mp h2
        obtain ⟨xn, _, rfl, hxn⟩ := y_of x x'.1
        obtain ⟨tn, _, rfl, htn⟩ := y_of t t'.1
        have hle := hox.1.1
        by_cases hfull : S 7 0 < 6
        · rcases hb with rfl | rfl
          · have hlt : S 7 0 < 6 := hfull
            have hoX : y_okX (y_ps (y_ps (y_ps (y_ps S 8 (S 7 0) xn) 9 (S 7 0) tn) 10 (S 7 0) 0) 7 0 (S 7 0 + 1)) := by
              unfold y_okX at hox ⊢
              simp (maxSteps := 1000000) (disch := omega) only [y_up_e, y_up_n, y_ps_e, y_ps_n]
              obtain ⟨a1, a2, a3⟩ := hox
              refine ⟨?_, a2, a3⟩
              refine ⟨by omega, fun r hr => ?_⟩
              by_cases e : r = S 7 0
              · subst e
                simp (maxSteps := 1000000) (disch := omega) only [y_up_e, y_up_n, y_ps_e, y_ps_n]
                exact ⟨by omega, by omega, by omega⟩
              · simp (maxSteps := 1000000) (disch := omega) only [y_up_e, y_up_n, y_ps_e, y_ps_n]
                exact a1.2 r (by omega)
            refine ⟨nI (S 7 0 + 1), y_ps (y_ps (y_ps (y_ps S 8 (S 7 0) xn) 9 (S 7 0) tn) 10 (S 7 0) 0) 7 0 (S 7 0 + 1), fun d I J hZ => ?_, fun d I J hZ => ?_⟩
            · obtain ⟨z1, z2, hM, hX, z8⟩ := hZ
              have hA := y_Ro_add_seen (d + 28) (I := I) J (c := S 7 0) (by unfold y_vX at hX; exact hX.1.1) (by unfold y_cst at z8; exact z8.1) (by omega) (nI xn) (nI tn) (0 : Int32)
              rw [if_pos hlt] at hA
              refine ⟨xz_up (xz_up (xz_up (xz_up I 9 (S 7 0) (nI xn)) 10 (S 7 0) (nI tn)) 11 (S 7 0) (0 : Int32)) 8 0 (nI (S 7 0 + 1)), J, ?_, ⟨?_, hoX, ?_, ?_, y_cst_of ?_ ?_ ?_ z8⟩, fun q hq => ?_, fun _ _ => rfl⟩
              · refine b_HR_see _ _ _ _ _ _ _ ?_
                rw [if_neg hx]
                simp (maxSteps := 1000000) (disch := omega) only [sh_is0, sh_gI0, sh_wI0, sh_wZ0, sh_gR0, sh_gR1, sh_gR2, sh_lI0, sh_lI1, sh_lI2, sh_sI0, sh_sI1, sh_sI2, sh_len0, sh_len1, sh_len2, sh_lZ0, sh_sZ0, sh_gJ0, sh_wJ0, sh_lR0, sh_lJ0, sh_sJ0, y_eo, y_eb, y_HR_refusalOf (d + 27) J hM.1.1 k2, h, h2, y_eI, if_true]
                skip
                simp (maxSteps := 1000000) (disch := omega) only [sh_is0, sh_gI0, sh_wI0, sh_wZ0, sh_gR0, sh_gR1, sh_gR2, sh_lI0, sh_lI1, sh_lI2, sh_sI0, sh_sI1, sh_sI2, sh_len0, sh_len1, sh_len2, sh_lZ0, sh_sZ0, sh_gJ0, sh_wJ0, sh_lR0, sh_lJ0, sh_sJ0, y_eo, y_eb, hA, y_eI]
              · unfold y_okM at z1 ⊢; simp (maxSteps := 1000000) (disch := omega) only [y_up_e, y_up_n, y_ps_e, y_ps_n]; exact z1
              · unfold y_vM at hM ⊢; simp (maxSteps := 1000000) (disch := omega) only [y_up_e, y_up_n, y_ps_e, y_ps_n, y_up_r]; exact hM
              · unfold y_vX at hX ⊢
                simp (maxSteps := 1000000) (disch := omega) only [y_up_e, y_up_n, y_ps_e, y_ps_n, y_up_r]
                obtain ⟨a1, a2, a3⟩ := hX
                refine ⟨?_, a2, a3⟩
                refine ⟨trivial, fun r hr => ?_⟩
                by_cases e : r = S 7 0
                · subst e
                  simp (maxSteps := 1000000) (disch := omega) only [y_up_e, y_up_n, y_ps_e, y_ps_n]
                  exact ⟨trivial, trivial, rfl⟩
                · simp (maxSteps := 1000000) (disch := omega) only [y_up_e, y_up_n, y_ps_e, y_ps_n]
                  exact a1.2 r (by omega)
              · simp (maxSteps := 1000000) (disch := omega) only [y_up_e, y_up_n, y_ps_e, y_ps_n]
              · simp (maxSteps := 1000000) (disch := omega) only [y_up_e, y_up_n, y_ps_e, y_ps_n]
              · simp (maxSteps := 1000000) (disch := omega) only [y_up_e, y_up_n, y_ps_e, y_ps_n]
              · simp (maxSteps := 1000000) (disch := omega) only [y_up_e, y_up_n, y_ps_e, y_ps_n, y_up_r]
            · obtain ⟨z1, z2, hR, hY⟩ := hZ
              have hcn : I 92 11 = nI (S 7 0) := by unfold y_vY at hY; exact hY.1.1
              refine ⟨xz_up (xz_up (xz_up (xz_up I 98 (S 7 0) (nI xn)) 99 (S 7 0) (nI tn)) 104 (S 7 0) (0 : Int32)) 92 11 (nI (S 7 0 + 1)), J, ?_, ⟨?_, hoX, ?_, ?_⟩, fun q hq _ _ => ?_, fun j hj => ?_, fun _ _ => rfl⟩
              · refine b_Mo_see _ _ _ _ _ _ _ ?_
                rw [if_neg hx]
                simp (maxSteps := 1000000) (disch := omega) only [sh_is0, sh_gI0, sh_wI0, sh_wZ0, sh_gR0, sh_gR1, sh_gR2, sh_lI0, sh_lI1, sh_lI2, sh_sI0, sh_sI1, sh_sI2, sh_len0, sh_len1, sh_len2, sh_lZ0, sh_sZ0, sh_gJ0, sh_wJ0, sh_lR0, sh_lJ0, sh_sJ0, y_eo, y_eb, y_Mo_isPerson _ J hR.1.1 k1 k2, h, y_eI]
                rw [if_neg (by decide)]
                simp (maxSteps := 1000000) (disch := omega) only [sh_is0, sh_gI0, sh_wI0, sh_wZ0, sh_gR0, sh_gR1, sh_gR2, sh_lI0, sh_lI1, sh_lI2, sh_sI0, sh_sI1, sh_sI2, sh_len0, sh_len1, sh_len2, sh_lZ0, sh_sZ0, sh_gJ0, sh_wJ0, sh_lR0, sh_lJ0, sh_sJ0, y_eo, y_eb, y_Mo_isTime, h2, y_eI]
                rw [if_neg (by decide)]
                simp (maxSteps := 1000000) (disch := omega) only [sh_is0, sh_gI0, sh_wI0, sh_wZ0, sh_gR0, sh_gR1, sh_gR2, sh_lI0, sh_lI1, sh_lI2, sh_sI0, sh_sI1, sh_sI2, sh_len0, sh_len1, sh_len2, sh_lZ0, sh_sZ0, sh_gJ0, sh_wJ0, sh_lR0, sh_lJ0, sh_sJ0, y_eo, y_eb, y_eI, y_eJ, y_eR, y_eV, y_in, nI_clamp, cond_true, y_eqI, y_ltI, y_leI, y_lit, nI_toInt, if_true, if_false, if_pos, if_neg, y_bIt, y_bIf, y_band, hcn, y_up_n, y_up_e, y_an0, y_an1, y_1]
              · unfold y_okM at z1 ⊢; simp (maxSteps := 1000000) (disch := omega) only [y_up_e, y_up_n, y_ps_e, y_ps_n]; exact z1
              · unfold y_vR at hR ⊢; simp (maxSteps := 1000000) (disch := omega) only [y_up_e, y_up_n, y_ps_e, y_ps_n, y_up_r]; exact hR
              · unfold y_vY at hY ⊢
                simp (maxSteps := 1000000) (disch := omega) only [y_up_e, y_up_n, y_ps_e, y_ps_n, y_up_r]
                obtain ⟨a1, a2, a3⟩ := hY
                refine ⟨?_, a2, a3⟩
                refine ⟨trivial, fun r hr => ?_⟩
                by_cases e : r = S 7 0
                · subst e
                  simp (maxSteps := 1000000) (disch := omega) only [y_up_e, y_up_n, y_ps_e, y_ps_n]
                  exact ⟨trivial, trivial, rfl⟩
                · simp (maxSteps := 1000000) (disch := omega) only [y_up_e, y_up_n, y_ps_e, y_ps_n]
                  exact a1.2 r (by omega)
              · simp (maxSteps := 1000000) (disch := omega) only [y_up_e, y_up_n, y_ps_e, y_ps_n, y_up_r]
              · simp (maxSteps := 1000000) (disch := omega) only [y_up_e, y_up_n, y_ps_e, y_ps_n]
          · have hlt : S 7 0 < 6 := hfull
            have hoX : y_okX (y_ps (y_ps (y_ps (y_ps S 8 (S 7 0) xn) 9 (S 7 0) tn) 10 (S 7 0) 1) 7 0 (S 7 0 + 1)) := by
              unfold y_okX at hox ⊢
              simp (maxSteps := 1000000) (disch := omega) only [y_up_e, y_up_n, y_ps_e, y_ps_n]
              obtain ⟨a1, a2, a3⟩ := hox
              refine ⟨?_, a2, a3⟩
              refine ⟨by omega, fun r hr => ?_⟩
              by_cases e : r = S 7 0
              · subst e
                simp (maxSteps := 1000000) (disch := omega) only [y_up_e, y_up_n, y_ps_e, y_ps_n]
                exact ⟨by omega, by omega, by omega⟩
              · simp (maxSteps := 1000000) (disch := omega) only [y_up_e, y_up_n, y_ps_e, y_ps_n]
                exact a1.2 r (by omega)
            refine ⟨nI (S 7 0 + 1), y_ps (y_ps (y_ps (y_ps S 8 (S 7 0) xn) 9 (S 7 0) tn) 10 (S 7 0) 1) 7 0 (S 7 0 + 1), fun d I J hZ => ?_, fun d I J hZ => ?_⟩
            · obtain ⟨z1, z2, hM, hX, z8⟩ := hZ
              have hA := y_Ro_add_seen (d + 28) (I := I) J (c := S 7 0) (by unfold y_vX at hX; exact hX.1.1) (by unfold y_cst at z8; exact z8.1) (by omega) (nI xn) (nI tn) (1 : Int32)
              rw [if_pos hlt] at hA
              refine ⟨xz_up (xz_up (xz_up (xz_up I 9 (S 7 0) (nI xn)) 10 (S 7 0) (nI tn)) 11 (S 7 0) (1 : Int32)) 8 0 (nI (S 7 0 + 1)), J, ?_, ⟨?_, hoX, ?_, ?_, y_cst_of ?_ ?_ ?_ z8⟩, fun q hq => ?_, fun _ _ => rfl⟩
              · refine b_HR_see _ _ _ _ _ _ _ ?_
                rw [if_neg hx]
                simp (maxSteps := 1000000) (disch := omega) only [sh_is0, sh_gI0, sh_wI0, sh_wZ0, sh_gR0, sh_gR1, sh_gR2, sh_lI0, sh_lI1, sh_lI2, sh_sI0, sh_sI1, sh_sI2, sh_len0, sh_len1, sh_len2, sh_lZ0, sh_sZ0, sh_gJ0, sh_wJ0, sh_lR0, sh_lJ0, sh_sJ0, y_eo, y_eb, y_HR_refusalOf (d + 27) J hM.1.1 k2, h, h2, y_eI, if_true]
                rw [if_neg (by decide)]
                simp (maxSteps := 1000000) (disch := omega) only [sh_is0, sh_gI0, sh_wI0, sh_wZ0, sh_gR0, sh_gR1, sh_gR2, sh_lI0, sh_lI1, sh_lI2, sh_sI0, sh_sI1, sh_sI2, sh_len0, sh_len1, sh_len2, sh_lZ0, sh_sZ0, sh_gJ0, sh_wJ0, sh_lR0, sh_lJ0, sh_sJ0, y_eo, y_eb, hA, y_eI]
              · unfold y_okM at z1 ⊢; simp (maxSteps := 1000000) (disch := omega) only [y_up_e, y_up_n, y_ps_e, y_ps_n]; exact z1
              · unfold y_vM at hM ⊢; simp (maxSteps := 1000000) (disch := omega) only [y_up_e, y_up_n, y_ps_e, y_ps_n, y_up_r]; exact hM
              · unfold y_vX at hX ⊢
                simp (maxSteps := 1000000) (disch := omega) only [y_up_e, y_up_n, y_ps_e, y_ps_n, y_up_r]
                obtain ⟨a1, a2, a3⟩ := hX
                refine ⟨?_, a2, a3⟩
                refine ⟨trivial, fun r hr => ?_⟩
                by_cases e : r = S 7 0
                · subst e
                  simp (maxSteps := 1000000) (disch := omega) only [y_up_e, y_up_n, y_ps_e, y_ps_n]
                  exact ⟨trivial, trivial, rfl⟩
                · simp (maxSteps := 1000000) (disch := omega) only [y_up_e, y_up_n, y_ps_e, y_ps_n]
                  exact a1.2 r (by omega)
              · simp (maxSteps := 1000000) (disch := omega) only [y_up_e, y_up_n, y_ps_e, y_ps_n]
              · simp (maxSteps := 1000000) (disch := omega) only [y_up_e, y_up_n, y_ps_e, y_ps_n]
              · simp (maxSteps := 1000000) (disch := omega) only [y_up_e, y_up_n, y_ps_e, y_ps_n]
              · simp (maxSteps := 1000000) (disch := omega) only [y_up_e, y_up_n, y_ps_e, y_ps_n, y_up_r]
            · obtain ⟨z1, z2, hR, hY⟩ := hZ
              have hcn : I 92 11 = nI (S 7 0) := by unfold y_vY at hY; exact hY.1.1
              refine ⟨xz_up (xz_up (xz_up (xz_up I 98 (S 7 0) (nI xn)) 99 (S 7 0) (nI tn)) 104 (S 7 0) (1 : Int32)) 92 11 (nI (S 7 0 + 1)), J, ?_, ⟨?_, hoX, ?_, ?_⟩, fun q hq _ _ => ?_, fun j hj => ?_, fun _ _ => rfl⟩
              · refine b_Mo_see _ _ _ _ _ _ _ ?_
                rw [if_neg hx]
                simp (maxSteps := 1000000) (disch := omega) only [sh_is0, sh_gI0, sh_wI0, sh_wZ0, sh_gR0, sh_gR1, sh_gR2, sh_lI0, sh_lI1, sh_lI2, sh_sI0, sh_sI1, sh_sI2, sh_len0, sh_len1, sh_len2, sh_lZ0, sh_sZ0, sh_gJ0, sh_wJ0, sh_lR0, sh_lJ0, sh_sJ0, y_eo, y_eb, y_Mo_isPerson _ J hR.1.1 k1 k2, h, y_eI]
                rw [if_neg (by decide)]
                simp (maxSteps := 1000000) (disch := omega) only [sh_is0, sh_gI0, sh_wI0, sh_wZ0, sh_gR0, sh_gR1, sh_gR2, sh_lI0, sh_lI1, sh_lI2, sh_sI0, sh_sI1, sh_sI2, sh_len0, sh_len1, sh_len2, sh_lZ0, sh_sZ0, sh_gJ0, sh_wJ0, sh_lR0, sh_lJ0, sh_sJ0, y_eo, y_eb, y_Mo_isTime, h2, y_eI]
                rw [if_neg (by decide)]
                simp (maxSteps := 1000000) (disch := omega) only [sh_is0, sh_gI0, sh_wI0, sh_wZ0, sh_gR0, sh_gR1, sh_gR2, sh_lI0, sh_lI1, sh_lI2, sh_sI0, sh_sI1, sh_sI2, sh_len0, sh_len1, sh_len2, sh_lZ0, sh_sZ0, sh_gJ0, sh_wJ0, sh_lR0, sh_lJ0, sh_sJ0, y_eo, y_eb, y_eI, y_eJ, y_eR, y_eV, y_in, nI_clamp, cond_true, y_eqI, y_ltI, y_leI, y_lit, nI_toInt, if_true, if_false, if_pos, if_neg, y_bIt, y_bIf, y_band, hcn, y_up_n, y_up_e, y_an0, y_an1, y_1]
              · unfold y_okM at z1 ⊢; simp (maxSteps := 1000000) (disch := omega) only [y_up_e, y_up_n, y_ps_e, y_ps_n]; exact z1
              · unfold y_vR at hR ⊢; simp (maxSteps := 1000000) (disch := omega) only [y_up_e, y_up_n, y_ps_e, y_ps_n, y_up_r]; exact hR
              · unfold y_vY at hY ⊢
                simp (maxSteps := 1000000) (disch := omega) only [y_up_e, y_up_n, y_ps_e, y_ps_n, y_up_r]
                obtain ⟨a1, a2, a3⟩ := hY
                refine ⟨?_, a2, a3⟩
                refine ⟨trivial, fun r hr => ?_⟩
                by_cases e : r = S 7 0
                · subst e
                  simp (maxSteps := 1000000) (disch := omega) only [y_up_e, y_up_n, y_ps_e, y_ps_n]
                  exact ⟨trivial, trivial, rfl⟩
                · simp (maxSteps := 1000000) (disch := omega) only [y_up_e, y_up_n, y_ps_e, y_ps_n]
                  exact a1.2 r (by omega)
              · simp (maxSteps := 1000000) (disch := omega) only [y_up_e, y_up_n, y_ps_e, y_ps_n, y_up_r]
              · simp (maxSteps := 1000000) (disch := omega) only [y_up_e, y_up_n, y_ps_e, y_ps_n]
        · have hc6 : S 7 0 = 6 := by omega
          refine ⟨-4, S, y_B_no (fun d I J hZ => ?_) (fun d I J hZ => ?_)⟩
          · have hA := fun z => y_Ro_add_seen (d + 28) (I := I) J (c := S 7 0) hZ.2.2.2.1.1.1 hZ.2.2.2.2.1 hle (nI xn) (nI tn) z
            refine b_HR_see _ _ _ _ _ _ _ ?_
            rw [if_neg hx]
            simp (maxSteps := 1000000) (disch := omega) only [sh_is0, sh_gI0, sh_wI0, sh_wZ0, sh_gR0, sh_gR1, sh_gR2, sh_lI0, sh_lI1, sh_lI2, sh_sI0, sh_sI1, sh_sI2, sh_len0, sh_len1, sh_len2, sh_lZ0, sh_sZ0, sh_gJ0, sh_wJ0, sh_lR0, sh_lJ0, sh_sJ0, y_eo, y_eb, y_HR_refusalOf (d + 27) J hZ.2.2.1.1.1 k2, h, h2, y_eI, if_true]
            rcases hb with rfl | rfl
            · rw [if_pos rfl]
              simp (maxSteps := 1000000) (disch := omega) only [sh_is0, sh_gI0, sh_wI0, sh_wZ0, sh_gR0, sh_gR1, sh_gR2, sh_lI0, sh_lI1, sh_lI2, sh_sI0, sh_sI1, sh_sI2, sh_len0, sh_len1, sh_len2, sh_lZ0, sh_sZ0, sh_gJ0, sh_wJ0, sh_lR0, sh_lJ0, sh_sJ0, y_eo, y_eb, hA, y_eI]
              rw [if_neg hfull, y_eI]
            · rw [if_neg (by decide)]
              simp (maxSteps := 1000000) (disch := omega) only [sh_is0, sh_gI0, sh_wI0, sh_wZ0, sh_gR0, sh_gR1, sh_gR2, sh_lI0, sh_lI1, sh_lI2, sh_sI0, sh_sI1, sh_sI2, sh_len0, sh_len1, sh_len2, sh_lZ0, sh_sZ0, sh_gJ0, sh_wJ0, sh_lR0, sh_lJ0, sh_sJ0, y_eo, y_eb, hA, y_eI]
              rw [if_neg hfull, y_eI]
          · have hcn := hZ.2.2.2.1.1
            refine b_Mo_see _ _ _ _ _ _ _ ?_
            rw [if_neg hx]
            simp (maxSteps := 1000000) (disch := omega) only [sh_is0, sh_gI0, sh_wI0, sh_wZ0, sh_gR0, sh_gR1, sh_gR2, sh_lI0, sh_lI1, sh_lI2, sh_sI0, sh_sI1, sh_sI2, sh_len0, sh_len1, sh_len2, sh_lZ0, sh_sZ0, sh_gJ0, sh_wJ0, sh_lR0, sh_lJ0, sh_sJ0, y_eo, y_eb, y_Mo_isPerson _ J hZ.2.2.1.1.1 k1 k2, h, y_eI]
            rw [if_neg (by decide)]
            simp (maxSteps := 1000000) (disch := omega) only [sh_is0, sh_gI0, sh_wI0, sh_wZ0, sh_gR0, sh_gR1, sh_gR2, sh_lI0, sh_lI1, sh_lI2, sh_sI0, sh_sI1, sh_sI2, sh_len0, sh_len1, sh_len2, sh_lZ0, sh_sZ0, sh_gJ0, sh_wJ0, sh_lR0, sh_lJ0, sh_sJ0, y_eo, y_eb, y_Mo_isTime, h2, y_eI]
            rw [if_neg (by decide)]
            simp (maxSteps := 1000000) (disch := omega) only [sh_is0, sh_gI0, sh_wI0, sh_wZ0, sh_gR0, sh_gR1, sh_gR2, sh_lI0, sh_lI1, sh_lI2, sh_sI0, sh_sI1, sh_sI2, sh_len0, sh_len1, sh_len2, sh_lZ0, sh_sZ0, sh_gJ0, sh_wJ0, sh_lR0, sh_lJ0, sh_sJ0, y_eo, y_eb, y_eI, y_eJ, y_eR, y_eV, y_in, nI_clamp, cond_true, y_eqI, y_ltI, y_leI, y_lit, nI_toInt, if_true, if_false, if_pos, if_neg, y_bIt, y_bIf, y_band, hcn]

theorem y_o_book (S : y_S) (hok : y_okM S) (hox : y_okX S) (x t : Int32) : ∃ v S', y_B q_HR_book q_Mo_book [.int x, .int t] S v S' := by
  obtain ⟨k1, k2, k3, k4, k5, k6, k7, k8⟩ := id hok
  by_cases hx : x = -1
  · subst hx
    refine ⟨0, y_ps S 15 0 0, fun d I J hZ => ?_, fun d I J hZ => ?_⟩
    · obtain ⟨z1, z2, hM, hX, z8⟩ := hZ
      refine ⟨xz_up I 16 0 0, J, ?_, ⟨?_, ?_, ?_, ?_, y_cst_of ?_ ?_ ?_ z8⟩, fun q hq => ?_, fun _ _ => rfl⟩
      · refine b_HR_book _ _ _ _ _ _ ?_
        rw [if_pos rfl]
        simp (maxSteps := 1000000) (disch := omega) only [sh_is0, sh_gI0, sh_wI0, sh_wZ0, sh_gR0, sh_gR1, sh_gR2, sh_lI0, sh_lI1, sh_lI2, sh_sI0, sh_sI1, sh_sI2, sh_len0, sh_len1, sh_len2, sh_lZ0, sh_sZ0, sh_gJ0, sh_wJ0, sh_lR0, sh_lJ0, sh_sJ0, y_eo, y_eb, (y_Ro_clear (d + 28) _ _).1, (y_Ro_clear (d + 28) _ _).2.1, (y_Ro_clear (d + 28) _ _).2.2, y_eI]
      · unfold y_okM at z1 ⊢; simp (maxSteps := 1000000) (disch := omega) only [y_up_e, y_up_n, y_ps_e, y_ps_n]; exact z1
      · unfold y_okX at z2 ⊢
        simp (maxSteps := 1000000) (disch := omega) only [y_up_e, y_up_n, y_ps_e, y_ps_n]
        obtain ⟨a1, a2, a3⟩ := z2
        exact ⟨a1, a2, ⟨by omega, fun r hr => by omega⟩⟩
      · unfold y_vM at hM ⊢; simp (maxSteps := 1000000) (disch := omega) only [y_up_e, y_up_n, y_ps_e, y_ps_n, y_up_r]; exact hM
      · unfold y_vX at hX ⊢
        simp (maxSteps := 1000000) (disch := omega) only [y_up_e, y_up_n, y_ps_e, y_ps_n, y_up_r]
        obtain ⟨a1, a2, a3⟩ := hX
        exact ⟨a1, a2, ⟨rfl, fun r hr => by omega⟩⟩
      · simp (maxSteps := 1000000) (disch := omega) only [y_up_e, y_up_n, y_ps_e, y_ps_n]
      · simp (maxSteps := 1000000) (disch := omega) only [y_up_e, y_up_n, y_ps_e, y_ps_n]
      · simp (maxSteps := 1000000) (disch := omega) only [y_up_e, y_up_n, y_ps_e, y_ps_n]
      · simp (maxSteps := 1000000) (disch := omega) only [y_up_e, y_up_n, y_ps_e, y_ps_n, y_up_r]
    · obtain ⟨z1, z2, hR, hY⟩ := hZ
      refine ⟨xz_up I 92 13 0, J, ?_, ⟨?_, ?_, ?_, ?_⟩, fun q hq _ _ => ?_, fun j hj => ?_, fun _ _ => rfl⟩
      · refine b_Mo_book _ _ _ _ _ _ ?_
        rw [if_pos rfl]
        simp (maxSteps := 1000000) (disch := omega) only [sh_is0, sh_gI0, sh_wI0, sh_wZ0, sh_gR0, sh_gR1, sh_gR2, sh_lI0, sh_lI1, sh_lI2, sh_sI0, sh_sI1, sh_sI2, sh_len0, sh_len1, sh_len2, sh_lZ0, sh_sZ0, sh_gJ0, sh_wJ0, sh_lR0, sh_lJ0, sh_sJ0, y_eo, y_eb]
      · unfold y_okM at z1 ⊢; simp (maxSteps := 1000000) (disch := omega) only [y_up_e, y_up_n, y_ps_e, y_ps_n]; exact z1
      · unfold y_okX at z2 ⊢
        simp (maxSteps := 1000000) (disch := omega) only [y_up_e, y_up_n, y_ps_e, y_ps_n]
        obtain ⟨a1, a2, a3⟩ := z2
        exact ⟨a1, a2, ⟨by omega, fun r hr => by omega⟩⟩
      · unfold y_vR at hR ⊢; simp (maxSteps := 1000000) (disch := omega) only [y_up_e, y_up_n, y_ps_e, y_ps_n, y_up_r]; exact hR
      · unfold y_vY at hY ⊢
        simp (maxSteps := 1000000) (disch := omega) only [y_up_e, y_up_n, y_ps_e, y_ps_n, y_up_r]
        obtain ⟨a1, a2, a3⟩ := hY
        exact ⟨a1, a2, ⟨rfl, fun r hr => by omega⟩⟩
      · simp (maxSteps := 1000000) (disch := omega) only [y_up_e, y_up_n, y_ps_e, y_ps_n, y_up_r]
      · simp (maxSteps := 1000000) (disch := omega) only [y_up_e, y_up_n, y_ps_e, y_ps_n]
  · cases h : y_rg x 0 (S 0 0 - 1) with
    | false =>
      refine ⟨-1, S, y_B_no (fun d I J hZ => ?_) (fun d I J hZ => ?_)⟩
      · refine b_HR_book _ _ _ _ _ _ ?_
        rw [if_neg hx]
        simp (maxSteps := 1000000) (disch := omega) only [sh_is0, sh_gI0, sh_wI0, sh_wZ0, sh_gR0, sh_gR1, sh_gR2, sh_lI0, sh_lI1, sh_lI2, sh_sI0, sh_sI1, sh_sI2, sh_len0, sh_len1, sh_len2, sh_lZ0, sh_sZ0, sh_gJ0, sh_wJ0, sh_lR0, sh_lJ0, sh_sJ0, y_eo, y_eb, y_HR_refusalOf (d + 27) J hZ.2.2.1.1.1 k2, h, y_eI, Bool.false_eq_true, if_false]
        rw [if_neg (by decide)]
      · refine b_Mo_book _ _ _ _ _ _ ?_
        rw [if_neg hx]
        simp (maxSteps := 1000000) (disch := omega) only [sh_is0, sh_gI0, sh_wI0, sh_wZ0, sh_gR0, sh_gR1, sh_gR2, sh_lI0, sh_lI1, sh_lI2, sh_sI0, sh_sI1, sh_sI2, sh_len0, sh_len1, sh_len2, sh_lZ0, sh_sZ0, sh_gJ0, sh_wJ0, sh_lR0, sh_lJ0, sh_sJ0, y_eo, y_eb, y_Mo_isPerson _ J hZ.2.2.1.1.1 k1 k2, h, y_eI]
        rw [if_pos (by decide)]
    | true =>
      cases h2 : y_rg t 0 99 with
      | false =>
        refine ⟨-2, S, y_B_no (fun d I J hZ => ?_) (fun d I J hZ => ?_)⟩
        · refine b_HR_book _ _ _ _ _ _ ?_
          rw [if_neg hx]
          simp (maxSteps := 1000000) (disch := omega) only [sh_is0, sh_gI0, sh_wI0, sh_wZ0, sh_gR0, sh_gR1, sh_gR2, sh_lI0, sh_lI1, sh_lI2, sh_sI0, sh_sI1, sh_sI2, sh_len0, sh_len1, sh_len2, sh_lZ0, sh_sZ0, sh_gJ0, sh_wJ0, sh_lR0, sh_lJ0, sh_sJ0, y_eo, y_eb, y_HR_refusalOf (d + 27) J hZ.2.2.1.1.1 k2, h, h2, y_eI, Bool.false_eq_true, if_false, if_true]
          rw [if_neg (by decide)]
        · refine b_Mo_book _ _ _ _ _ _ ?_
          rw [if_neg hx]
          simp (maxSteps := 1000000) (disch := omega) only [sh_is0, sh_gI0, sh_wI0, sh_wZ0, sh_gR0, sh_gR1, sh_gR2, sh_lI0, sh_lI1, sh_lI2, sh_sI0, sh_sI1, sh_sI2, sh_len0, sh_len1, sh_len2, sh_lZ0, sh_sZ0, sh_gJ0, sh_wJ0, sh_lR0, sh_lJ0, sh_sJ0, y_eo, y_eb, y_Mo_isPerson _ J hZ.2.2.1.1.1 k1 k2, h, y_eI]
          rw [if_neg (by decide)]
          simp (maxSteps := 1000000) (disch := omega) only [sh_is0, sh_gI0, sh_wI0, sh_wZ0, sh_gR0, sh_gR1, sh_gR2, sh_lI0, sh_lI1, sh_lI2, sh_sI0, sh_sI1, sh_sI2, sh_len0, sh_len1, sh_len2, sh_lZ0, sh_sZ0, sh_gJ0, sh_wJ0, sh_lR0, sh_lJ0, sh_sJ0, y_eo, y_eb, y_Mo_isTime, h2, y_eI]
          rw [if_pos (by decide)]
      | true =>
        have x' := y_rgt.mp h
        have t' := y_rgt.mp h2
        obtain ⟨xn, _, rfl, hxn⟩ := y_of x x'.1
        obtain ⟨tn, _, rfl, htn⟩ := y_of t t'.1
        have hle := hox.2.2.1
        by_cases hfull : S 15 0 < 8
        · have hlt : S 15 0 < 8 := hfull
          have hoX : y_okX (y_ps (y_ps (y_ps S 16 (S 15 0) xn) 17 (S 15 0) tn) 15 0 (S 15 0 + 1)) := by
            unfold y_okX at hox ⊢
            simp (maxSteps := 1000000) (disch := omega) only [y_up_e, y_up_n, y_ps_e, y_ps_n]
            obtain ⟨a1, a2, a3⟩ := hox
            refine ⟨a1, a2, ?_⟩
            refine ⟨by omega, fun r hr => ?_⟩
            by_cases e : r = S 15 0
            · subst e
              simp (maxSteps := 1000000) (disch := omega) only [y_up_e, y_up_n, y_ps_e, y_ps_n]
              exact ⟨by omega, by omega⟩
            · simp (maxSteps := 1000000) (disch := omega) only [y_up_e, y_up_n, y_ps_e, y_ps_n]
              exact a3.2 r (by omega)
          refine ⟨nI (S 15 0 + 1), y_ps (y_ps (y_ps S 16 (S 15 0) xn) 17 (S 15 0) tn) 15 0 (S 15 0 + 1), fun d I J hZ => ?_, fun d I J hZ => ?_⟩
          · obtain ⟨z1, z2, hM, hX, z8⟩ := hZ
            have hA := y_Ro_add_book (d + 28) (I := I) J (c := S 15 0) (by unfold y_vX at hX; exact hX.2.2.1) (by unfold y_cst at z8; exact z8.2.2) (by omega) (nI xn) (nI tn) (0 : Int32)
            rw [if_pos hlt] at hA
            refine ⟨xz_up (xz_up (xz_up (xz_up I 17 (S 15 0) (nI xn)) 18 (S 15 0) (nI tn)) 19 (S 15 0) (0 : Int32)) 16 0 (nI (S 15 0 + 1)), J, ?_, ⟨?_, hoX, ?_, ?_, y_cst_of ?_ ?_ ?_ z8⟩, fun q hq => ?_, fun _ _ => rfl⟩
            · refine b_HR_book _ _ _ _ _ _ ?_
              rw [if_neg hx]
              simp (maxSteps := 1000000) (disch := omega) only [sh_is0, sh_gI0, sh_wI0, sh_wZ0, sh_gR0, sh_gR1, sh_gR2, sh_lI0, sh_lI1, sh_lI2, sh_sI0, sh_sI1, sh_sI2, sh_len0, sh_len1, sh_len2, sh_lZ0, sh_sZ0, sh_gJ0, sh_wJ0, sh_lR0, sh_lJ0, sh_sJ0, y_eo, y_eb, y_HR_refusalOf (d + 27) J hM.1.1 k2, h, h2, y_eI, if_true]
              simp (maxSteps := 1000000) (disch := omega) only [sh_is0, sh_gI0, sh_wI0, sh_wZ0, sh_gR0, sh_gR1, sh_gR2, sh_lI0, sh_lI1, sh_lI2, sh_sI0, sh_sI1, sh_sI2, sh_len0, sh_len1, sh_len2, sh_lZ0, sh_sZ0, sh_gJ0, sh_wJ0, sh_lR0, sh_lJ0, sh_sJ0, y_eo, y_eb, hA, y_eI]
            · unfold y_okM at z1 ⊢; simp (maxSteps := 1000000) (disch := omega) only [y_up_e, y_up_n, y_ps_e, y_ps_n]; exact z1
            · unfold y_vM at hM ⊢; simp (maxSteps := 1000000) (disch := omega) only [y_up_e, y_up_n, y_ps_e, y_ps_n, y_up_r]; exact hM
            · unfold y_vX at hX ⊢
              simp (maxSteps := 1000000) (disch := omega) only [y_up_e, y_up_n, y_ps_e, y_ps_n, y_up_r]
              obtain ⟨a1, a2, a3⟩ := hX
              refine ⟨a1, a2, ?_⟩
              refine ⟨trivial, fun r hr => ?_⟩
              by_cases e : r = S 15 0
              · subst e
                simp (maxSteps := 1000000) (disch := omega) only [y_up_e, y_up_n, y_ps_e, y_ps_n]
                exact ⟨trivial, trivial⟩
              · simp (maxSteps := 1000000) (disch := omega) only [y_up_e, y_up_n, y_ps_e, y_ps_n]
                exact a3.2 r (by omega)
            · simp (maxSteps := 1000000) (disch := omega) only [y_up_e, y_up_n, y_ps_e, y_ps_n]
            · simp (maxSteps := 1000000) (disch := omega) only [y_up_e, y_up_n, y_ps_e, y_ps_n]
            · simp (maxSteps := 1000000) (disch := omega) only [y_up_e, y_up_n, y_ps_e, y_ps_n]
            · simp (maxSteps := 1000000) (disch := omega) only [y_up_e, y_up_n, y_ps_e, y_ps_n, y_up_r]
          · obtain ⟨z1, z2, hR, hY⟩ := hZ
            have hcn : I 92 13 = nI (S 15 0) := by unfold y_vY at hY; exact hY.2.2.1
            refine ⟨xz_up (xz_up (xz_up I 102 (S 15 0) (nI xn)) 103 (S 15 0) (nI tn)) 92 13 (nI (S 15 0 + 1)), J, ?_, ⟨?_, hoX, ?_, ?_⟩, fun q hq _ _ => ?_, fun j hj => ?_, fun _ _ => rfl⟩
            · refine b_Mo_book _ _ _ _ _ _ ?_
              rw [if_neg hx]
              simp (maxSteps := 1000000) (disch := omega) only [sh_is0, sh_gI0, sh_wI0, sh_wZ0, sh_gR0, sh_gR1, sh_gR2, sh_lI0, sh_lI1, sh_lI2, sh_sI0, sh_sI1, sh_sI2, sh_len0, sh_len1, sh_len2, sh_lZ0, sh_sZ0, sh_gJ0, sh_wJ0, sh_lR0, sh_lJ0, sh_sJ0, y_eo, y_eb, y_Mo_isPerson _ J hR.1.1 k1 k2, h, y_eI]
              rw [if_neg (by decide)]
              simp (maxSteps := 1000000) (disch := omega) only [sh_is0, sh_gI0, sh_wI0, sh_wZ0, sh_gR0, sh_gR1, sh_gR2, sh_lI0, sh_lI1, sh_lI2, sh_sI0, sh_sI1, sh_sI2, sh_len0, sh_len1, sh_len2, sh_lZ0, sh_sZ0, sh_gJ0, sh_wJ0, sh_lR0, sh_lJ0, sh_sJ0, y_eo, y_eb, y_Mo_isTime, h2, y_eI]
              rw [if_neg (by decide)]
              simp (maxSteps := 1000000) (disch := omega) only [sh_is0, sh_gI0, sh_wI0, sh_wZ0, sh_gR0, sh_gR1, sh_gR2, sh_lI0, sh_lI1, sh_lI2, sh_sI0, sh_sI1, sh_sI2, sh_len0, sh_len1, sh_len2, sh_lZ0, sh_sZ0, sh_gJ0, sh_wJ0, sh_lR0, sh_lJ0, sh_sJ0, y_eo, y_eb, y_eI, y_eJ, y_eR, y_eV, y_in, nI_clamp, cond_true, y_eqI, y_ltI, y_leI, y_lit, nI_toInt, if_true, if_false, if_pos, if_neg, y_bIt, y_bIf, y_band, hcn, y_up_n, y_up_e, y_an0, y_an1, y_1]
            · unfold y_okM at z1 ⊢; simp (maxSteps := 1000000) (disch := omega) only [y_up_e, y_up_n, y_ps_e, y_ps_n]; exact z1
            · unfold y_vR at hR ⊢; simp (maxSteps := 1000000) (disch := omega) only [y_up_e, y_up_n, y_ps_e, y_ps_n, y_up_r]; exact hR
            · unfold y_vY at hY ⊢
              simp (maxSteps := 1000000) (disch := omega) only [y_up_e, y_up_n, y_ps_e, y_ps_n, y_up_r]
              obtain ⟨a1, a2, a3⟩ := hY
              refine ⟨a1, a2, ?_⟩
              refine ⟨trivial, fun r hr => ?_⟩
              by_cases e : r = S 15 0
              · subst e
                simp (maxSteps := 1000000) (disch := omega) only [y_up_e, y_up_n, y_ps_e, y_ps_n]
                exact ⟨trivial, trivial⟩
              · simp (maxSteps := 1000000) (disch := omega) only [y_up_e, y_up_n, y_ps_e, y_ps_n]
                exact a3.2 r (by omega)
            · simp (maxSteps := 1000000) (disch := omega) only [y_up_e, y_up_n, y_ps_e, y_ps_n, y_up_r]
            · simp (maxSteps := 1000000) (disch := omega) only [y_up_e, y_up_n, y_ps_e, y_ps_n]
        · have hc6 : S 15 0 = 8 := by omega
          refine ⟨-4, S, y_B_no (fun d I J hZ => ?_) (fun d I J hZ => ?_)⟩
          · have hA := y_Ro_add_book (d + 28) (I := I) J (c := S 15 0) hZ.2.2.2.1.2.2.1 hZ.2.2.2.2.2.2 hle (nI xn) (nI tn) 0
            rw [if_neg hfull] at hA
            refine b_HR_book _ _ _ _ _ _ ?_
            rw [if_neg hx]
            simp (maxSteps := 1000000) (disch := omega) only [sh_is0, sh_gI0, sh_wI0, sh_wZ0, sh_gR0, sh_gR1, sh_gR2, sh_lI0, sh_lI1, sh_lI2, sh_sI0, sh_sI1, sh_sI2, sh_len0, sh_len1, sh_len2, sh_lZ0, sh_sZ0, sh_gJ0, sh_wJ0, sh_lR0, sh_lJ0, sh_sJ0, y_eo, y_eb, y_HR_refusalOf (d + 27) J hZ.2.2.1.1.1 k2, h, h2, y_eI, if_true]
            simp (maxSteps := 1000000) (disch := omega) only [sh_is0, sh_gI0, sh_wI0, sh_wZ0, sh_gR0, sh_gR1, sh_gR2, sh_lI0, sh_lI1, sh_lI2, sh_sI0, sh_sI1, sh_sI2, sh_len0, sh_len1, sh_len2, sh_lZ0, sh_sZ0, sh_gJ0, sh_wJ0, sh_lR0, sh_lJ0, sh_sJ0, y_eo, y_eb, hA, y_eI]
          · have hcn := hZ.2.2.2.2.2.1
            refine b_Mo_book _ _ _ _ _ _ ?_
            rw [if_neg hx]
            simp (maxSteps := 1000000) (disch := omega) only [sh_is0, sh_gI0, sh_wI0, sh_wZ0, sh_gR0, sh_gR1, sh_gR2, sh_lI0, sh_lI1, sh_lI2, sh_sI0, sh_sI1, sh_sI2, sh_len0, sh_len1, sh_len2, sh_lZ0, sh_sZ0, sh_gJ0, sh_wJ0, sh_lR0, sh_lJ0, sh_sJ0, y_eo, y_eb, y_Mo_isPerson _ J hZ.2.2.1.1.1 k1 k2, h, y_eI]
            rw [if_neg (by decide)]
            simp (maxSteps := 1000000) (disch := omega) only [sh_is0, sh_gI0, sh_wI0, sh_wZ0, sh_gR0, sh_gR1, sh_gR2, sh_lI0, sh_lI1, sh_lI2, sh_sI0, sh_sI1, sh_sI2, sh_len0, sh_len1, sh_len2, sh_lZ0, sh_sZ0, sh_gJ0, sh_wJ0, sh_lR0, sh_lJ0, sh_sJ0, y_eo, y_eb, y_Mo_isTime, h2, y_eI]
            rw [if_neg (by decide)]
            simp (maxSteps := 1000000) (disch := omega) only [sh_is0, sh_gI0, sh_wI0, sh_wZ0, sh_gR0, sh_gR1, sh_gR2, sh_lI0, sh_lI1, sh_lI2, sh_sI0, sh_sI1, sh_sI2, sh_len0, sh_len1, sh_len2, sh_lZ0, sh_sZ0, sh_gJ0, sh_wJ0, sh_lR0, sh_lJ0, sh_sJ0, y_eo, y_eb, y_eI, y_eJ, y_eR, y_eV, y_in, nI_clamp, cond_true, y_eqI, y_ltI, y_leI, y_lit, nI_toInt, if_true, if_false, if_pos, if_neg, y_bIt, y_bIf, y_band, hcn]

/-- what is said against an event -/
def y_er (S : y_S) (w n : Int32) : Int32 := if w = 0 then (if y_rg n 0 (S 1 0 - 1) = true then 0 else -1) else if w = 1 then (if y_rg n 0 9 = true then 0 else -2) else if w = 2 then (if y_rg n 0 (S 0 0 - 1) = true then 0 else -1) else if w = 3 then (if y_rg n 0 99 = true then 0 else -2) else -1
theorem y_HR_er (d : Nat) {S : y_S} (hok : y_okM S) {I : Nat → Nat → Int32} (J : Nat → Nat → Int64) (hM : y_vM 1 S I) (w n : Int32) : zC (d + 2) q_HR_eventRefusal [.ref 0, .int w, .int n] (xz_SH, I, J) = some (some (.int (y_er S w n)), (xz_SH, I, J)) := by
  obtain ⟨k1, k2, k3, k4, k5, k6, k7, k8⟩ := id hok
  refine b_HR_eventRefusal _ _ _ _ _ _ ?_
  unfold y_er
  by_cases e0 : w = 0
  · rw [if_pos e0, if_pos e0]
    simp (maxSteps := 1000000) (disch := omega) only [sh_is0, sh_gI0, sh_wI0, sh_wZ0, sh_gR0, sh_gR1, sh_gR2, sh_lI0, sh_lI1, sh_lI2, sh_sI0, sh_sI1, sh_sI2, sh_len0, sh_len1, sh_len2, sh_lZ0, sh_sZ0, sh_gJ0, sh_wJ0, sh_lR0, sh_lJ0, sh_sJ0, y_eo, y_eb, y_Me_hasCome _ (Or.inl rfl) J hM hok, y_eI]
    cases y_rg n 0 (S 1 0 - 1) <;> rfl
  · rw [if_neg e0, if_neg e0]
    by_cases e1 : w = 1
    · rw [if_pos e1, if_pos e1]
      simp (maxSteps := 1000000) (disch := omega) only [sh_is0, sh_gI0, sh_wI0, sh_wZ0, sh_gR0, sh_gR1, sh_gR2, sh_lI0, sh_lI1, sh_lI2, sh_sI0, sh_sI1, sh_sI2, sh_len0, sh_len1, sh_len2, sh_lZ0, sh_sZ0, sh_gJ0, sh_wJ0, sh_lR0, sh_lJ0, sh_sJ0, y_eo, y_eb, y_HR_isDelay, y_eI]
      cases y_rg n 0 9 <;> rfl
    · rw [if_neg e1, if_neg e1]
      by_cases e2 : w = 2
      · rw [if_pos e2, if_pos e2]
        simp (maxSteps := 1000000) (disch := omega) only [sh_is0, sh_gI0, sh_wI0, sh_wZ0, sh_gR0, sh_gR1, sh_gR2, sh_lI0, sh_lI1, sh_lI2, sh_sI0, sh_sI1, sh_sI2, sh_len0, sh_len1, sh_len2, sh_lZ0, sh_sZ0, sh_gJ0, sh_wJ0, sh_lR0, sh_lJ0, sh_sJ0, y_eo, y_eb, y_Se_isPerson _ (Or.inl rfl) J hM.1.1 k2, y_eI]
        cases y_rg n 0 (S 0 0 - 1) <;> rfl
      · rw [if_neg e2, if_neg e2]
        by_cases e3 : w = 3
        · rw [if_pos e3, if_pos e3]
          simp (maxSteps := 1000000) (disch := omega) only [sh_is0, sh_gI0, sh_wI0, sh_wZ0, sh_gR0, sh_gR1, sh_gR2, sh_lI0, sh_lI1, sh_lI2, sh_sI0, sh_sI1, sh_sI2, sh_len0, sh_len1, sh_len2, sh_lZ0, sh_sZ0, sh_gJ0, sh_wJ0, sh_lR0, sh_lJ0, sh_sJ0, y_eo, y_eb, y_HR_isTime, y_eI]
          cases y_rg n 0 99 <;> rfl
        · rw [if_neg e3, if_neg e3]
theorem y_er_c (S : y_S) (hc : S 1 0 ≤ 14) (w n : Int32) : (y_er S w n = 0 ∧ ∃ a b : Nat, w = nI a ∧ n = nI b ∧ ((a = 0 ∧ b < S 1 0) ∨ (a = 1 ∧ b ≤ 9) ∨ (a = 2 ∧ b < S 0 0) ∨ (a = 3 ∧ b ≤ 99))) ∨ y_er S w n = -1 ∨ y_er S w n = -2 := by
  unfold y_er
  by_cases e0 : w = 0
  · rw [if_pos e0]
    cases h : y_rg n 0 (S 1 0 - 1) with
    | false => exact Or.inr (Or.inl (if_neg (by simp)))
    | true =>
      have h' := y_rgt.mp h
      obtain ⟨b, _, rfl, hb⟩ := y_of n h'.1
      exact Or.inl ⟨if_pos rfl, 0, b, e0, rfl, by omega⟩
  · rw [if_neg e0]
    by_cases e1 : w = 1
    · rw [if_pos e1]
      cases h : y_rg n 0 9 with
      | false => exact Or.inr (Or.inr (if_neg (by simp)))
      | true =>
        have h' := y_rgt.mp h
        obtain ⟨b, _, rfl, hb⟩ := y_of n h'.1
        exact Or.inl ⟨if_pos rfl, 1, b, e1, rfl, by omega⟩
    · rw [if_neg e1]
      by_cases e2 : w = 2
      · rw [if_pos e2]
        cases h : y_rg n 0 (S 0 0 - 1) with
        | false => exact Or.inr (Or.inl (if_neg (by simp)))
        | true =>
          have h' := y_rgt.mp h
          obtain ⟨b, _, rfl, hb⟩ := y_of n h'.1
          exact Or.inl ⟨if_pos rfl, 2, b, e2, rfl, by omega⟩
      · rw [if_neg e2]
        by_cases e3 : w = 3
        · rw [if_pos e3]
          cases h : y_rg n 0 99 with
          | false => exact Or.inr (Or.inr (if_neg (by simp)))
          | true =>
            have h' := y_rgt.mp h
            obtain ⟨b, _, rfl, hb⟩ := y_of n h'.1
            exact Or.inl ⟨if_pos rfl, 3, b, e3, rfl, by omega⟩
        · rw [if_neg e3]
          exact Or.inr (Or.inl rfl)
/-- the reference: refused, or on to the end -/
theorem y_Mo_er (d : Nat) {S : y_S} (hok : y_okM S) {I : Nat → Nat → Int32} (J : Nat → Nat → Int64) (hR : y_vR S I) (w n : Int32) (hw : ¬ w = -1) (r : Option Value × xz_M) (h0 : y_er S w n = 0 → zL (d + 2) q_Mo_event 58 [(0, .ref 92), (1, .int w), (2, .int n)] (xz_SH, I, J) = some r) (h1 : ¬ y_er S w n = 0 → some (some (.int (y_er S w n)), ((xz_SH, I, J) : xz_M)) = some r) : zC (d + 3) q_Mo_event [.ref 92, .int w, .int n] (xz_SH, I, J) = some r := by
  obtain ⟨k1, k2, k3, k4, k5, k6, k7, k8⟩ := id hok
  have ein : zC (d + 2) q_Mo_in [.long (Int32.toInt64 n), .long (0 : Int64), .long (Int32.toInt64 (nI (S 1 0) - (1 : Int32)))] (xz_SH, I, J) = some (some (.int (y_bI (y_rg n 0 (S 1 0 - 1)))), (xz_SH, I, J)) := by
    refine y_Mo_inH _ n _ 0 (by decide) ?_ _
    rcases Nat.eq_zero_or_pos (S 1 0) with e0 | e0
    · rw [e0]; decide
    · rw [y_m1 (by omega), nI_toInt (by omega)]
      omega
  refine b_Mo_event _ _ _ _ _ _ ?_
  rw [if_neg hw, y_Mo_inI _ w 0 3 (l := 0) (h := 3) (by decide) (by decide), y_eI]
  unfold y_er at h0 h1
  by_cases e0 : w = 0
  · subst e0
    rw [show y_rg (0 : Int32) 0 3 = true by decide, if_neg (by decide), if_pos rfl]
    rw [if_pos rfl] at h0 h1
    simp (maxSteps := 1000000) (disch := omega) only [sh_is0, sh_gI0, sh_wI0, sh_wZ0, sh_gR0, sh_gR1, sh_gR2, sh_lI0, sh_lI1, sh_lI2, sh_sI0, sh_sI1, sh_sI2, sh_len0, sh_len1, sh_len2, sh_lZ0, sh_sZ0, sh_gJ0, sh_wJ0, sh_lR0, sh_lJ0, sh_sJ0, y_eo, y_eb, hR.2.1, ein, y_eI]
    cases h : y_rg n 0 (S 1 0 - 1) with
    | false =>
      rw [h] at h1
      rw [if_pos (by decide)]
      refine b_Mo_event_l35 _ _ _ ?_
      exact h1 (by decide)
    | true =>
      rw [h] at h0
      rw [if_neg (by decide)]
      refine b_Mo_event_l27 _ _ _ _ _ _ ?_
      rw [if_neg (by decide)]
      refine b_Mo_event_l38 _ _ _ _ _ _ ?_
      rw [if_neg (by decide)]
      refine b_Mo_event_l48 _ _ _ _ _ _ ?_
      rw [if_neg (by decide)]
      exact h0 rfl
  · rw [if_neg e0] at h0 h1
    by_cases e1 : w = 1
    · subst e1
      rw [show y_rg (1 : Int32) 0 3 = true by decide, if_neg (by decide), if_neg (by decide)]
      rw [if_pos rfl] at h0 h1
      refine b_Mo_event_l27 _ _ _ _ _ _ ?_
      rw [if_neg (by decide)]
      refine b_Mo_event_l38 _ _ _ _ _ _ ?_
      rw [if_pos rfl, y_Mo_inI _ n 0 9 (l := 0) (h := 9) (by decide) (by decide), y_eI]
      cases h : y_rg n 0 9 with
      | false =>
        rw [h] at h1
        rw [if_pos (by decide)]
        refine b_Mo_event_l55 _ _ _ ?_
        exact h1 (by decide)
      | true =>
        rw [h] at h0
        rw [if_neg (by decide)]
        refine b_Mo_event_l48 _ _ _ _ _ _ ?_
        rw [if_neg (by decide)]
        exact h0 rfl
    · rw [if_neg e1] at h0 h1
      by_cases e2 : w = 2
      · subst e2
        rw [show y_rg (2 : Int32) 0 3 = true by decide, if_neg (by decide), if_neg (by decide)]
        rw [if_pos rfl] at h0 h1
        refine b_Mo_event_l27 _ _ _ _ _ _ ?_
        rw [if_pos rfl]
        simp (maxSteps := 1000000) (disch := omega) only [sh_is0, sh_gI0, sh_wI0, sh_wZ0, sh_gR0, sh_gR1, sh_gR2, sh_lI0, sh_lI1, sh_lI2, sh_sI0, sh_sI1, sh_sI2, sh_len0, sh_len1, sh_len2, sh_lZ0, sh_sZ0, sh_gJ0, sh_wJ0, sh_lR0, sh_lJ0, sh_sJ0, y_eo, y_eb, y_Mo_isPerson d J hR.1.1 k1 k2, y_eI]
        cases h : y_rg n 0 (S 0 0 - 1) with
        | false =>
          rw [h] at h1
          rw [if_pos (by decide)]
          refine b_Mo_event_l35 _ _ _ ?_
          exact h1 (by decide)
        | true =>
          rw [h] at h0
          rw [if_neg (by decide)]
          refine b_Mo_event_l38 _ _ _ _ _ _ ?_
          rw [if_neg (by decide)]
          refine b_Mo_event_l48 _ _ _ _ _ _ ?_
          rw [if_neg (by decide)]
          exact h0 rfl
      · rw [if_neg e2] at h0 h1
        by_cases e3 : w = 3
        · subst e3
          rw [show y_rg (3 : Int32) 0 3 = true by decide, if_neg (by decide), if_neg (by decide)]
          rw [if_pos rfl] at h0 h1
          refine b_Mo_event_l27 _ _ _ _ _ _ ?_
          rw [if_neg (by decide)]
          refine b_Mo_event_l38 _ _ _ _ _ _ ?_
          rw [if_neg (by decide)]
          refine b_Mo_event_l48 _ _ _ _ _ _ ?_
          rw [if_pos rfl, y_Mo_isTime, y_eI]
          cases h : y_rg n 0 99 with
          | false =>
            rw [h] at h1
            rw [if_pos (by decide)]
            refine b_Mo_event_l55 _ _ _ ?_
            exact h1 (by decide)
          | true =>
            rw [h] at h0
            rw [if_neg (by decide)]
            exact h0 rfl
        · rw [if_neg e3] at h0 h1
          have hno : y_rg w 0 3 = false := by
            refine y_rgf.mpr fun hh => ?_
            simp only [y_eqI, y_lit] at e0 e1 e2 e3
            omega
          rw [hno, if_pos (by decide)]
          refine b_Mo_event_l35 _ _ _ ?_
          exact h1 (by decide)
theorem y_o_event (S : y_S) (hok : y_okM S) (hox : y_okX S) (x n : Int32) : ∃ v S', y_B q_HR_event q_Mo_event [.int x, .int n] S v S' := by
  obtain ⟨k1, k2, k3, k4, k5, k6, k7, k8⟩ := id hok
  by_cases hx : x = -1
  · subst hx
    refine ⟨0, y_ps S 11 0 0, fun d I J hZ => ?_, fun d I J hZ => ?_⟩
    · obtain ⟨z1, z2, hM, hX, z8⟩ := hZ
      refine ⟨xz_up I 12 0 0, J, ?_, ⟨?_, ?_, ?_, ?_, y_cst_of ?_ ?_ ?_ z8⟩, fun q hq => ?_, fun _ _ => rfl⟩
      · refine b_HR_event _ _ _ _ _ _ ?_
        rw [if_pos rfl]
        simp (maxSteps := 1000000) (disch := omega) only [sh_is0, sh_gI0, sh_wI0, sh_wZ0, sh_gR0, sh_gR1, sh_gR2, sh_lI0, sh_lI1, sh_lI2, sh_sI0, sh_sI1, sh_sI2, sh_len0, sh_len1, sh_len2, sh_lZ0, sh_sZ0, sh_gJ0, sh_wJ0, sh_lR0, sh_lJ0, sh_sJ0, y_eo, y_eb, (y_Ro_clear (d + 28) _ _).1, (y_Ro_clear (d + 28) _ _).2.1, (y_Ro_clear (d + 28) _ _).2.2, y_eI]
      · unfold y_okM at z1 ⊢; simp (maxSteps := 1000000) (disch := omega) only [y_up_e, y_up_n, y_ps_e, y_ps_n]; exact z1
      · unfold y_okX at z2 ⊢
        simp (maxSteps := 1000000) (disch := omega) only [y_up_e, y_up_n, y_ps_e, y_ps_n]
        obtain ⟨a1, a2, a3⟩ := z2
        exact ⟨a1, ⟨by omega, fun r hr => by omega⟩, a3⟩
      · unfold y_vM at hM ⊢; simp (maxSteps := 1000000) (disch := omega) only [y_up_e, y_up_n, y_ps_e, y_ps_n, y_up_r]; exact hM
      · unfold y_vX at hX ⊢
        simp (maxSteps := 1000000) (disch := omega) only [y_up_e, y_up_n, y_ps_e, y_ps_n, y_up_r]
        obtain ⟨a1, a2, a3⟩ := hX
        exact ⟨a1, ⟨rfl, fun r hr => by omega⟩, a3⟩
      · simp (maxSteps := 1000000) (disch := omega) only [y_up_e, y_up_n, y_ps_e, y_ps_n]
      · simp (maxSteps := 1000000) (disch := omega) only [y_up_e, y_up_n, y_ps_e, y_ps_n]
      · simp (maxSteps := 1000000) (disch := omega) only [y_up_e, y_up_n, y_ps_e, y_ps_n]
      · simp (maxSteps := 1000000) (disch := omega) only [y_up_e, y_up_n, y_ps_e, y_ps_n, y_up_r]
    · obtain ⟨z1, z2, hR, hY⟩ := hZ
      refine ⟨xz_up I 92 12 0, J, ?_, ⟨?_, ?_, ?_, ?_⟩, fun q hq _ _ => ?_, fun j hj => ?_, fun _ _ => rfl⟩
      · refine b_Mo_event _ _ _ _ _ _ ?_
        rw [if_pos rfl]
        simp (maxSteps := 1000000) (disch := omega) only [sh_is0, sh_gI0, sh_wI0, sh_wZ0, sh_gR0, sh_gR1, sh_gR2, sh_lI0, sh_lI1, sh_lI2, sh_sI0, sh_sI1, sh_sI2, sh_len0, sh_len1, sh_len2, sh_lZ0, sh_sZ0, sh_gJ0, sh_wJ0, sh_lR0, sh_lJ0, sh_sJ0, y_eo, y_eb]
      · unfold y_okM at z1 ⊢; simp (maxSteps := 1000000) (disch := omega) only [y_up_e, y_up_n, y_ps_e, y_ps_n]; exact z1
      · unfold y_okX at z2 ⊢
        simp (maxSteps := 1000000) (disch := omega) only [y_up_e, y_up_n, y_ps_e, y_ps_n]
        obtain ⟨a1, a2, a3⟩ := z2
        exact ⟨a1, ⟨by omega, fun r hr => by omega⟩, a3⟩
      · unfold y_vR at hR ⊢; simp (maxSteps := 1000000) (disch := omega) only [y_up_e, y_up_n, y_ps_e, y_ps_n, y_up_r]; exact hR
      · unfold y_vY at hY ⊢
        simp (maxSteps := 1000000) (disch := omega) only [y_up_e, y_up_n, y_ps_e, y_ps_n, y_up_r]
        obtain ⟨a1, a2, a3⟩ := hY
        exact ⟨a1, ⟨rfl, fun r hr => by omega⟩, a3⟩
      · simp (maxSteps := 1000000) (disch := omega) only [y_up_e, y_up_n, y_ps_e, y_ps_n, y_up_r]
      · simp (maxSteps := 1000000) (disch := omega) only [y_up_e, y_up_n, y_ps_e, y_ps_n]
  · have no : ∀ v : Int32, y_er S x n = v → ¬ v = 0 → ∃ v S', y_B q_HR_event q_Mo_event [.int x, .int n] S v S' := by
      intro v hv h0
      refine ⟨v, S, y_B_no (fun d I J hZ => ?_) (fun d I J hZ => ?_)⟩
      · refine b_HR_event _ _ _ _ _ _ ?_
        rw [if_neg hx]
        simp (maxSteps := 1000000) (disch := omega) only [sh_is0, sh_gI0, sh_wI0, sh_wZ0, sh_gR0, sh_gR1, sh_gR2, sh_lI0, sh_lI1, sh_lI2, sh_sI0, sh_sI1, sh_sI2, sh_len0, sh_len1, sh_len2, sh_lZ0, sh_sZ0, sh_gJ0, sh_wJ0, sh_lR0, sh_lJ0, sh_sJ0, y_eo, y_eb, y_HR_er (d + 27) hok J hZ.2.2.1, hv, y_eI]
        rw [if_neg h0]
      · exact y_Mo_er (d + 27) hok J hZ.2.2.1 _ _ hx _ (fun z => absurd (hv ▸ z) h0) (fun _ => by rw [hv])
    rcases y_er_c S k7 x n with ⟨he, an, bn, rfl, rfl, hcase⟩ | he | he
    · have hle := hox.2.1.1
      by_cases hfull : S 11 0 < 8
      · have hlt : S 11 0 < 8 := hfull
        have hoX : y_okX (y_ps (y_ps (y_ps S 12 (S 11 0) an) 13 (S 11 0) bn) 11 0 (S 11 0 + 1)) := by
          unfold y_okX at hox ⊢
          simp (maxSteps := 1000000) (disch := omega) only [y_up_e, y_up_n, y_ps_e, y_ps_n]
          obtain ⟨a1, a2, a3⟩ := hox
          refine ⟨a1, ?_, a3⟩
          refine ⟨by omega, fun r hr => ?_⟩
          by_cases e : r = S 11 0
          · subst e
            simp (maxSteps := 1000000) (disch := omega) only [y_up_e, y_up_n, y_ps_e, y_ps_n]
            exact hcase
          · simp (maxSteps := 1000000) (disch := omega) only [y_up_e, y_up_n, y_ps_e, y_ps_n]
            exact a2.2 r (by omega)
        refine ⟨nI (S 11 0 + 1), y_ps (y_ps (y_ps S 12 (S 11 0) an) 13 (S 11 0) bn) 11 0 (S 11 0 + 1), fun d I J hZ => ?_, fun d I J hZ => ?_⟩
        · obtain ⟨z1, z2, hM, hX, z8⟩ := hZ
          have hA := y_Ro_add_events (d + 28) (I := I) J (c := S 11 0) (by unfold y_vX at hX; exact hX.2.1.1) (by unfold y_cst at z8; exact z8.2.1) (by omega) (nI an) (nI bn) (0 : Int32)
          rw [if_pos hlt] at hA
          refine ⟨xz_up (xz_up (xz_up (xz_up I 13 (S 11 0) (nI an)) 14 (S 11 0) (nI bn)) 15 (S 11 0) (0 : Int32)) 12 0 (nI (S 11 0 + 1)), J, ?_, ⟨?_, hoX, ?_, ?_, y_cst_of ?_ ?_ ?_ z8⟩, fun q hq => ?_, fun _ _ => rfl⟩
          · refine b_HR_event _ _ _ _ _ _ ?_
            rw [if_neg hx]
            simp (maxSteps := 1000000) (disch := omega) only [sh_is0, sh_gI0, sh_wI0, sh_wZ0, sh_gR0, sh_gR1, sh_gR2, sh_lI0, sh_lI1, sh_lI2, sh_sI0, sh_sI1, sh_sI2, sh_len0, sh_len1, sh_len2, sh_lZ0, sh_sZ0, sh_gJ0, sh_wJ0, sh_lR0, sh_lJ0, sh_sJ0, y_eo, y_eb, y_HR_er (d + 27) hok J hM, he, y_eI]
            rw [if_pos trivial]
            simp (maxSteps := 1000000) (disch := omega) only [sh_is0, sh_gI0, sh_wI0, sh_wZ0, sh_gR0, sh_gR1, sh_gR2, sh_lI0, sh_lI1, sh_lI2, sh_sI0, sh_sI1, sh_sI2, sh_len0, sh_len1, sh_len2, sh_lZ0, sh_sZ0, sh_gJ0, sh_wJ0, sh_lR0, sh_lJ0, sh_sJ0, y_eo, y_eb, hA, y_eI]
          · unfold y_okM at z1 ⊢; simp (maxSteps := 1000000) (disch := omega) only [y_up_e, y_up_n, y_ps_e, y_ps_n]; exact z1
          · unfold y_vM at hM ⊢; simp (maxSteps := 1000000) (disch := omega) only [y_up_e, y_up_n, y_ps_e, y_ps_n, y_up_r]; exact hM
          · unfold y_vX at hX ⊢
            simp (maxSteps := 1000000) (disch := omega) only [y_up_e, y_up_n, y_ps_e, y_ps_n, y_up_r]
            obtain ⟨a1, a2, a3⟩ := hX
            refine ⟨a1, ?_, a3⟩
            refine ⟨trivial, fun r hr => ?_⟩
            by_cases e : r = S 11 0
            · subst e
              simp (maxSteps := 1000000) (disch := omega) only [y_up_e, y_up_n, y_ps_e, y_ps_n]
              exact ⟨trivial, trivial⟩
            · simp (maxSteps := 1000000) (disch := omega) only [y_up_e, y_up_n, y_ps_e, y_ps_n]
              exact a2.2 r (by omega)
          · simp (maxSteps := 1000000) (disch := omega) only [y_up_e, y_up_n, y_ps_e, y_ps_n]
          · simp (maxSteps := 1000000) (disch := omega) only [y_up_e, y_up_n, y_ps_e, y_ps_n]
          · simp (maxSteps := 1000000) (disch := omega) only [y_up_e, y_up_n, y_ps_e, y_ps_n]
          · simp (maxSteps := 1000000) (disch := omega) only [y_up_e, y_up_n, y_ps_e, y_ps_n, y_up_r]
        · obtain ⟨z1, z2, hR, hY⟩ := hZ
          have hcn : I 92 12 = nI (S 11 0) := by unfold y_vY at hY; exact hY.2.1.1
          refine ⟨xz_up (xz_up (xz_up I 100 (S 11 0) (nI an)) 101 (S 11 0) (nI bn)) 92 12 (nI (S 11 0 + 1)), J, ?_, ⟨?_, hoX, ?_, ?_⟩, fun q hq _ _ => ?_, fun j hj => ?_, fun _ _ => rfl⟩
          · refine y_Mo_er (d + 27) hok J hR _ _ hx _ (fun _ => ?_) (fun hne => absurd he hne)
            refine b_Mo_event_l58 _ _ _ _ _ _ ?_
            simp (maxSteps := 1000000) (disch := omega) only [sh_is0, sh_gI0, sh_wI0, sh_wZ0, sh_gR0, sh_gR1, sh_gR2, sh_lI0, sh_lI1, sh_lI2, sh_sI0, sh_sI1, sh_sI2, sh_len0, sh_len1, sh_len2, sh_lZ0, sh_sZ0, sh_gJ0, sh_wJ0, sh_lR0, sh_lJ0, sh_sJ0, y_eo, y_eb, y_eI, y_eJ, y_eR, y_eV, y_in, nI_clamp, cond_true, y_eqI, y_ltI, y_leI, y_lit, nI_toInt, if_true, if_false, if_pos, if_neg, y_bIt, y_bIf, y_band, hcn, y_up_n, y_up_e, y_1]
          · unfold y_okM at z1 ⊢; simp (maxSteps := 1000000) (disch := omega) only [y_up_e, y_up_n, y_ps_e, y_ps_n]; exact z1
          · unfold y_vR at hR ⊢; simp (maxSteps := 1000000) (disch := omega) only [y_up_e, y_up_n, y_ps_e, y_ps_n, y_up_r]; exact hR
          · unfold y_vY at hY ⊢
            simp (maxSteps := 1000000) (disch := omega) only [y_up_e, y_up_n, y_ps_e, y_ps_n, y_up_r]
            obtain ⟨a1, a2, a3⟩ := hY
            refine ⟨a1, ?_, a3⟩
            refine ⟨trivial, fun r hr => ?_⟩
            by_cases e : r = S 11 0
            · subst e
              simp (maxSteps := 1000000) (disch := omega) only [y_up_e, y_up_n, y_ps_e, y_ps_n]
              exact ⟨trivial, trivial⟩
            · simp (maxSteps := 1000000) (disch := omega) only [y_up_e, y_up_n, y_ps_e, y_ps_n]
              exact a2.2 r (by omega)
          · simp (maxSteps := 1000000) (disch := omega) only [y_up_e, y_up_n, y_ps_e, y_ps_n, y_up_r]
          · simp (maxSteps := 1000000) (disch := omega) only [y_up_e, y_up_n, y_ps_e, y_ps_n]
      · have hc8 : S 11 0 = 8 := by omega
        refine ⟨-4, S, y_B_no (fun d I J hZ => ?_) (fun d I J hZ => ?_)⟩
        · have hA := y_Ro_add_events (d + 28) (I := I) J (c := S 11 0) hZ.2.2.2.1.2.1.1 hZ.2.2.2.2.2.1 hle (nI an) (nI bn) 0
          rw [if_neg hfull] at hA
          refine b_HR_event _ _ _ _ _ _ ?_
          rw [if_neg hx]
          simp (maxSteps := 1000000) (disch := omega) only [sh_is0, sh_gI0, sh_wI0, sh_wZ0, sh_gR0, sh_gR1, sh_gR2, sh_lI0, sh_lI1, sh_lI2, sh_sI0, sh_sI1, sh_sI2, sh_len0, sh_len1, sh_len2, sh_lZ0, sh_sZ0, sh_gJ0, sh_wJ0, sh_lR0, sh_lJ0, sh_sJ0, y_eo, y_eb, y_HR_er (d + 27) hok J hZ.2.2.1, he, y_eI]
          rw [if_pos trivial]
          simp (maxSteps := 1000000) (disch := omega) only [sh_is0, sh_gI0, sh_wI0, sh_wZ0, sh_gR0, sh_gR1, sh_gR2, sh_lI0, sh_lI1, sh_lI2, sh_sI0, sh_sI1, sh_sI2, sh_len0, sh_len1, sh_len2, sh_lZ0, sh_sZ0, sh_gJ0, sh_wJ0, sh_lR0, sh_lJ0, sh_sJ0, y_eo, y_eb, hA, y_eI]
        · have hcn := hZ.2.2.2.2.1.1
          refine y_Mo_er (d + 27) hok J hZ.2.2.1 _ _ hx _ (fun _ => ?_) (fun hne => absurd he hne)
          refine b_Mo_event_l58 _ _ _ _ _ _ ?_
          simp (maxSteps := 1000000) (disch := omega) only [sh_is0, sh_gI0, sh_wI0, sh_wZ0, sh_gR0, sh_gR1, sh_gR2, sh_lI0, sh_lI1, sh_lI2, sh_sI0, sh_sI1, sh_sI2, sh_len0, sh_len1, sh_len2, sh_lZ0, sh_sZ0, sh_gJ0, sh_wJ0, sh_lR0, sh_lJ0, sh_sJ0, y_eo, y_eb, y_eI, y_eJ, y_eR, y_eV, y_in, nI_clamp, cond_true, y_eqI, y_ltI, y_leI, y_lit, nI_toInt, if_true, if_false, if_pos, if_neg, y_bIt, y_bIf, y_band, hcn]
    · exact no _ he (by decide)
    · exact no _ he (by decide)
