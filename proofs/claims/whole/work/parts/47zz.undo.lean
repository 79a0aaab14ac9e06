theorem y_s_undo : zSI zR q_HR_undo q_Mo_undo [] := by
  rintro M ⟨S, I, J, rfl, z1, ⟨z2, z3⟩, ⟨z4, z5⟩, z6, z7, z8, z9⟩
  obtain ⟨e, e1, e2, e3⟩ := id z6
  cases e with
  | false =>
    refine ⟨-3, (xz_SH, I, J), (xz_SH, I, J), ?_, rfl, ?_, S, I, J, rfl, z1, ⟨z2, z3⟩, ⟨z4, z5⟩, z6, z7, z8, z9⟩
    · refine b_HR_undo _ _ _ _ ?_
      simp (maxSteps := 1000000) (disch := omega) only [sh_is0, sh_gI0, sh_wI0, sh_wZ0, sh_gR0, sh_gR1, sh_gR2, sh_lI0, sh_lI1, sh_lI2, sh_sI0, sh_sI1, sh_sI2, sh_len0, sh_len1, sh_len2, sh_lZ0, sh_sZ0, sh_gJ0, sh_wJ0, sh_lR0, sh_lJ0, sh_sJ0, y_eo, y_eb, y_eI, y_eJ, y_eR, y_eV, y_in, nI_clamp, cond_true, y_eqI, y_ltI, y_leI, y_lit, nI_toInt, if_true, if_false, if_pos, if_neg, y_bIt, y_bIf, y_band, e1]
    · refine b_Mo_undo _ _ _ _ ?_
      have e0 : xz_gI (xz_SH, I, J) 92 8 42 = some (I 92 42) := rfl
      rw [e0, y_eo, e2, if_pos (show y_bI false = 0 from rfl)]
  | true =>
    obtain ⟨K, q1, q2, q3, q4, q5⟩ := e3 rfl
    obtain ⟨I1, f1, f2, f3, ⟨f6, f7, f8⟩, f5⟩ := y_Se_become 57 (b := 1) (b' := 20) (Or.inl rfl) (Or.inr (Or.inl rfl)) (by omega) q1 q2 J q3 q4
    have hlf := y_Me_left 58 (Or.inl rfl) J f2 q1
    have hcl : zC 60 q_HR_undo [.ref 0] (xz_SH, I, J) = some (some (.int (nI (y_lf K))), (xz_SH, I1, J)) := by
      refine b_HR_undo _ _ _ _ ?_
      simp (maxSteps := 1000000) (disch := omega) only [sh_is0, sh_gI0, sh_wI0, sh_wZ0, sh_gR0, sh_gR1, sh_gR2, sh_lI0, sh_lI1, sh_lI2, sh_sI0, sh_sI1, sh_sI2, sh_len0, sh_len1, sh_len2, sh_lZ0, sh_sZ0, sh_gJ0, sh_wJ0, sh_lR0, sh_lJ0, sh_sJ0, y_eo, y_eb, y_eI, y_eJ, y_eR, y_eV, y_in, nI_clamp, cond_true, y_eqI, y_ltI, y_leI, y_lit, nI_toInt, if_true, if_false, if_pos, if_neg, y_bIt, y_bIf, y_band, e1, f1, hlf]
    have e2' : I 92 42 = 1 := e2
    obtain ⟨I2, g1, g2, g3, g4, g5⟩ := y_Mo_undo 57 q1 q2 J (y_vI_of (fun q _ _ => f5 q (by omega)) q5) (by rw [f5 92 (by omega)]; exact e2')
    have b1 : ∀ q, q < 1 ∨ (20 ≤ q ∧ q < 92) ∨ 105 ≤ q → I2 q = I q := fun q hq => by rw [g4 q (by omega), f5 q (by omega)]
    have b2 : ∀ q, q < 20 → I2 q = I1 q := fun q hq => g4 q (by omega)
    have b3 : ∀ j, 14 ≤ j → I2 92 j = I 92 j := fun j hj => by rw [g5 j hj, f5 92 (by omega)]
    refine ⟨_, _, _, hcl, rfl, g1, K, I2, J, rfl, ⟨q1, q2⟩, ⟨y_vM_of (fun q _ _ => b2 q (by omega)) f2, y_vX_of (fun q _ _ => b2 q (by omega)) f3⟩, ⟨g2, g3⟩, y_kept_of (fun q _ => b1 q (by omega)) (by rw [b1 0 (by omega)]) (b3 42 (by omega)) z6, y_text_of ?_ ?_ ?_ ?_ z7, y_tape_of (fun q _ => b1 q (by omega)) (fun _ _ => rfl) z8, y_cst_of ?_ ?_ ?_ z9⟩
    · rw [b1 66 (by omega)]
    · exact b3 22 (by omega)
    · exact b1 67 (by omega)
    · exact b1 105 (by omega)
    · rw [b2 8 (by omega)]; exact f6
    · rw [b2 12 (by omega)]; exact f7
    · rw [b2 16 (by omega)]; exact f8
