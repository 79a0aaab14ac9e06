/-! read: one clause obeyed, both -/
theorem y_obey (S : y_S) (hok : y_okM S) (hox : y_okX S) {i : Nat} (hi : i < 5) (x : Nat → Nat) : ∃ v S', (∀ d I J m t, m ≤ 12 → t < m → y_ZC S I → I 66 1 = nI m → I 68 t = nI i → (∀ k, k < y_K i → I (70 + t) k = nI (x k)) → ∃ I' J', zC (d + 31) q_HR_obey [.ref 0, .int (nI t)] (xz_SH, I, J) = some (some (.int v), (xz_SH, I', J')) ∧ y_ZC S' I' ∧ y_fC I I' J J') ∧ ∀ d I J t, t < 12 → y_ZD S I → I 106 t = nI i → (∀ k, k < y_K i → I 107 (4 * t + k) = nI (x k)) → ∃ I' J', zC (d + 31) q_Mo_done [.ref 92, .int (nI t)] (xz_SH, I, J) = some (some (.int v), (xz_SH, I', J')) ∧ y_ZD S' I' ∧ y_fD I I' J J' := by
  have hc5 : i = 0 ∨ i = 1 ∨ i = 2 ∨ i = 3 ∨ i = 4 := by omega
  rcases hc5 with rfl | rfl | rfl | rfl | rfl
  · obtain ⟨v, S', f1, f2⟩ := y_o_people S hok (nI (x 0))
    refine ⟨v, S', fun d I J m t hm ht hZ h1 h2 h3 => ?_, fun d I J t ht hZ h2 h3 => ?_⟩
    · obtain ⟨I', J', k1, k2, k3⟩ := f1 d I J hZ
      refine ⟨I', J', b_HR_obey _ _ _ _ _ ?_, k2, k3⟩
      rw [show xz_gR (xz_SH, I, J) 0 7 5 = some 66 from rfl, y_eo, show xz_is (xz_SH, I, J) 66 5 = true from rfl, y_eb, y_Te_word (d + 29) J hm ht h1 h2, y_eI, if_pos (by decide)]
      have n0 : zC (d + 30) q_Te_number [.ref 66, .int (nI t), .int (0 : Int32)] (xz_SH, I, J) = some (some (.int (nI (x 0))), (xz_SH, I, J)) := y_Te_number (d + 29) J hm ht (k := 0) (by decide) h1 (h3 0 (by decide))
      simp (maxSteps := 1000000) (disch := omega) only [sh_is0, sh_gI0, sh_wI0, sh_wZ0, sh_gR0, sh_gR1, sh_gR2, sh_lI0, sh_lI1, sh_lI2, sh_sI0, sh_sI1, sh_sI2, sh_len0, sh_len1, sh_len2, sh_lZ0, sh_sZ0, sh_gJ0, sh_wJ0, sh_lR0, sh_lJ0, sh_sJ0, y_eo, y_eb, n0, y_eI, k1]
    · obtain ⟨I', J', k1, k2, k3⟩ := f2 d I J hZ
      refine ⟨I', J', b_Mo_done _ _ _ _ _ ?_, k2, k3⟩
      rw [show xz_gR (xz_SH, I, J) 92 8 26 = some 106 from rfl, y_eo, show xz_lI0 (xz_SH, I, J) 0 106 (nI t) = some (nI 0) from ?_, y_eo, if_pos (by decide)]
      · have h30 : I 107 (4 * t) = nI (x 0) := h3 0 (by decide)
        simp (maxSteps := 1000000) (disch := omega) only [sh_is0, sh_gI0, sh_wI0, sh_wZ0, sh_gR0, sh_gR1, sh_gR2, sh_lI0, sh_lI1, sh_lI2, sh_sI0, sh_sI1, sh_sI2, sh_len0, sh_len1, sh_len2, sh_lZ0, sh_sZ0, sh_gJ0, sh_wJ0, sh_lR0, sh_lJ0, sh_sJ0, y_eo, y_eb, y_4, y_1, y_2', y_3', y_eI, cond_true, y_in (show 4 * t < 48 by omega) (by decide), nI_clamp (show 4 * t < 2 ^ 31 by omega), h30, k1]
      · simp (maxSteps := 1000000) (disch := omega) only [sh_is0, sh_gI0, sh_wI0, sh_wZ0, sh_gR0, sh_gR1, sh_gR2, sh_lI0, sh_lI1, sh_lI2, sh_sI0, sh_sI1, sh_sI2, sh_len0, sh_len1, sh_len2, sh_lZ0, sh_sZ0, sh_gJ0, sh_wJ0, sh_lR0, sh_lJ0, sh_sJ0, y_eo, y_eb, y_in ht (by decide), nI_clamp (show t < 2 ^ 31 by omega), cond_true, h2]
  · obtain ⟨v, S', f1, f2⟩ := y_o_meet S hok hox (nI (x 0)) (nI (x 1)) (nI (x 2)) (nI (x 3))
    refine ⟨v, S', fun d I J m t hm ht hZ h1 h2 h3 => ?_, fun d I J t ht hZ h2 h3 => ?_⟩
    · obtain ⟨I', J', k1, k2, k3⟩ := f1 d I J hZ
      refine ⟨I', J', b_HR_obey _ _ _ _ _ ?_, k2, k3⟩
      rw [show xz_gR (xz_SH, I, J) 0 7 5 = some 66 from rfl, y_eo, show xz_is (xz_SH, I, J) 66 5 = true from rfl, y_eb, y_Te_word (d + 29) J hm ht h1 h2, y_eI, if_neg (by decide), if_pos (by decide)]
      have n0 : zC (d + 30) q_Te_number [.ref 66, .int (nI t), .int (0 : Int32)] (xz_SH, I, J) = some (some (.int (nI (x 0))), (xz_SH, I, J)) := y_Te_number (d + 29) J hm ht (k := 0) (by decide) h1 (h3 0 (by decide))
      have n1 : zC (d + 30) q_Te_number [.ref 66, .int (nI t), .int (1 : Int32)] (xz_SH, I, J) = some (some (.int (nI (x 1))), (xz_SH, I, J)) := y_Te_number (d + 29) J hm ht (k := 1) (by decide) h1 (h3 1 (by decide))
      have n2 : zC (d + 30) q_Te_number [.ref 66, .int (nI t), .int (2 : Int32)] (xz_SH, I, J) = some (some (.int (nI (x 2))), (xz_SH, I, J)) := y_Te_number (d + 29) J hm ht (k := 2) (by decide) h1 (h3 2 (by decide))
      have n3 : zC (d + 30) q_Te_number [.ref 66, .int (nI t), .int (3 : Int32)] (xz_SH, I, J) = some (some (.int (nI (x 3))), (xz_SH, I, J)) := y_Te_number (d + 29) J hm ht (k := 3) (by decide) h1 (h3 3 (by decide))
      simp (maxSteps := 1000000) (disch := omega) only [sh_is0, sh_gI0, sh_wI0, sh_wZ0, sh_gR0, sh_gR1, sh_gR2, sh_lI0, sh_lI1, sh_lI2, sh_sI0, sh_sI1, sh_sI2, sh_len0, sh_len1, sh_len2, sh_lZ0, sh_sZ0, sh_gJ0, sh_wJ0, sh_lR0, sh_lJ0, sh_sJ0, y_eo, y_eb, n0, n1, n2, n3, y_eI, k1]
    · obtain ⟨I', J', k1, k2, k3⟩ := f2 d I J hZ
      refine ⟨I', J', b_Mo_done _ _ _ _ _ ?_, k2, k3⟩
      rw [show xz_gR (xz_SH, I, J) 92 8 26 = some 106 from rfl, y_eo, show xz_lI0 (xz_SH, I, J) 0 106 (nI t) = some (nI 1) from ?_, y_eo, if_neg (by decide), if_pos (by decide)]
      · have h30 : I 107 (4 * t) = nI (x 0) := h3 0 (by decide)
        simp (maxSteps := 1000000) (disch := omega) only [sh_is0, sh_gI0, sh_wI0, sh_wZ0, sh_gR0, sh_gR1, sh_gR2, sh_lI0, sh_lI1, sh_lI2, sh_sI0, sh_sI1, sh_sI2, sh_len0, sh_len1, sh_len2, sh_lZ0, sh_sZ0, sh_gJ0, sh_wJ0, sh_lR0, sh_lJ0, sh_sJ0, y_eo, y_eb, y_4, y_1, y_2', y_3', y_eI, cond_true, y_in (show 4 * t < 48 by omega) (by decide), nI_clamp (show 4 * t < 2 ^ 31 by omega), h30, y_in (show 4 * t + 1 < 48 by omega) (by decide), nI_clamp (show 4 * t + 1 < 2 ^ 31 by omega), h3 1 (by decide), y_in (show 4 * t + 2 < 48 by omega) (by decide), nI_clamp (show 4 * t + 2 < 2 ^ 31 by omega), h3 2 (by decide), y_in (show 4 * t + 3 < 48 by omega) (by decide), nI_clamp (show 4 * t + 3 < 2 ^ 31 by omega), h3 3 (by decide), k1]
      · simp (maxSteps := 1000000) (disch := omega) only [sh_is0, sh_gI0, sh_wI0, sh_wZ0, sh_gR0, sh_gR1, sh_gR2, sh_lI0, sh_lI1, sh_lI2, sh_sI0, sh_sI1, sh_sI2, sh_len0, sh_len1, sh_len2, sh_lZ0, sh_sZ0, sh_gJ0, sh_wJ0, sh_lR0, sh_lJ0, sh_sJ0, y_eo, y_eb, y_in ht (by decide), nI_clamp (show t < 2 ^ 31 by omega), cond_true, h2]
  · obtain ⟨v, S', f1, f2⟩ := y_o_drop S hok hox (nI (x 0))
    refine ⟨v, S', fun d I J m t hm ht hZ h1 h2 h3 => ?_, fun d I J t ht hZ h2 h3 => ?_⟩
    · obtain ⟨I', J', k1, k2, k3⟩ := f1 d I J hZ
      refine ⟨I', J', b_HR_obey _ _ _ _ _ ?_, k2, k3⟩
      rw [show xz_gR (xz_SH, I, J) 0 7 5 = some 66 from rfl, y_eo, show xz_is (xz_SH, I, J) 66 5 = true from rfl, y_eb, y_Te_word (d + 29) J hm ht h1 h2, y_eI, if_neg (by decide), if_neg (by decide), if_pos (by decide)]
      have n0 : zC (d + 30) q_Te_number [.ref 66, .int (nI t), .int (0 : Int32)] (xz_SH, I, J) = some (some (.int (nI (x 0))), (xz_SH, I, J)) := y_Te_number (d + 29) J hm ht (k := 0) (by decide) h1 (h3 0 (by decide))
      simp (maxSteps := 1000000) (disch := omega) only [sh_is0, sh_gI0, sh_wI0, sh_wZ0, sh_gR0, sh_gR1, sh_gR2, sh_lI0, sh_lI1, sh_lI2, sh_sI0, sh_sI1, sh_sI2, sh_len0, sh_len1, sh_len2, sh_lZ0, sh_sZ0, sh_gJ0, sh_wJ0, sh_lR0, sh_lJ0, sh_sJ0, y_eo, y_eb, n0, y_eI, k1]
    · obtain ⟨I', J', k1, k2, k3⟩ := f2 d I J hZ
      refine ⟨I', J', b_Mo_done _ _ _ _ _ ?_, k2, k3⟩
      rw [show xz_gR (xz_SH, I, J) 92 8 26 = some 106 from rfl, y_eo, show xz_lI0 (xz_SH, I, J) 0 106 (nI t) = some (nI 2) from ?_, y_eo, if_neg (by decide), if_neg (by decide), if_pos (by decide)]
      · have h30 : I 107 (4 * t) = nI (x 0) := h3 0 (by decide)
        simp (maxSteps := 1000000) (disch := omega) only [sh_is0, sh_gI0, sh_wI0, sh_wZ0, sh_gR0, sh_gR1, sh_gR2, sh_lI0, sh_lI1, sh_lI2, sh_sI0, sh_sI1, sh_sI2, sh_len0, sh_len1, sh_len2, sh_lZ0, sh_sZ0, sh_gJ0, sh_wJ0, sh_lR0, sh_lJ0, sh_sJ0, y_eo, y_eb, y_4, y_1, y_2', y_3', y_eI, cond_true, y_in (show 4 * t < 48 by omega) (by decide), nI_clamp (show 4 * t < 2 ^ 31 by omega), h30, k1]
      · simp (maxSteps := 1000000) (disch := omega) only [sh_is0, sh_gI0, sh_wI0, sh_wZ0, sh_gR0, sh_gR1, sh_gR2, sh_lI0, sh_lI1, sh_lI2, sh_sI0, sh_sI1, sh_sI2, sh_len0, sh_len1, sh_len2, sh_lZ0, sh_sZ0, sh_gJ0, sh_wJ0, sh_lR0, sh_lJ0, sh_sJ0, y_eo, y_eb, y_in ht (by decide), nI_clamp (show t < 2 ^ 31 by omega), cond_true, h2]
  · obtain ⟨v, S', f1, f2⟩ := y_o_delay S hok (nI (x 0))
    refine ⟨v, S', fun d I J m t hm ht hZ h1 h2 h3 => ?_, fun d I J t ht hZ h2 h3 => ?_⟩
    · obtain ⟨I', J', k1, k2, k3⟩ := f1 d I J hZ
      refine ⟨I', J', b_HR_obey _ _ _ _ _ ?_, k2, k3⟩
      rw [show xz_gR (xz_SH, I, J) 0 7 5 = some 66 from rfl, y_eo, show xz_is (xz_SH, I, J) 66 5 = true from rfl, y_eb, y_Te_word (d + 29) J hm ht h1 h2, y_eI, if_neg (by decide), if_neg (by decide), if_neg (by decide), if_pos (by decide)]
      have n0 : zC (d + 30) q_Te_number [.ref 66, .int (nI t), .int (0 : Int32)] (xz_SH, I, J) = some (some (.int (nI (x 0))), (xz_SH, I, J)) := y_Te_number (d + 29) J hm ht (k := 0) (by decide) h1 (h3 0 (by decide))
      simp (maxSteps := 1000000) (disch := omega) only [sh_is0, sh_gI0, sh_wI0, sh_wZ0, sh_gR0, sh_gR1, sh_gR2, sh_lI0, sh_lI1, sh_lI2, sh_sI0, sh_sI1, sh_sI2, sh_len0, sh_len1, sh_len2, sh_lZ0, sh_sZ0, sh_gJ0, sh_wJ0, sh_lR0, sh_lJ0, sh_sJ0, y_eo, y_eb, n0, y_eI, k1]
    · obtain ⟨I', J', k1, k2, k3⟩ := f2 d I J hZ
      refine ⟨I', J', b_Mo_done _ _ _ _ _ ?_, k2, k3⟩
      rw [show xz_gR (xz_SH, I, J) 92 8 26 = some 106 from rfl, y_eo, show xz_lI0 (xz_SH, I, J) 0 106 (nI t) = some (nI 3) from ?_, y_eo, if_neg (by decide), if_neg (by decide), if_neg (by decide), if_pos (by decide)]
      · have h30 : I 107 (4 * t) = nI (x 0) := h3 0 (by decide)
        simp (maxSteps := 1000000) (disch := omega) only [sh_is0, sh_gI0, sh_wI0, sh_wZ0, sh_gR0, sh_gR1, sh_gR2, sh_lI0, sh_lI1, sh_lI2, sh_sI0, sh_sI1, sh_sI2, sh_len0, sh_len1, sh_len2, sh_lZ0, sh_sZ0, sh_gJ0, sh_wJ0, sh_lR0, sh_lJ0, sh_sJ0, y_eo, y_eb, y_4, y_1, y_2', y_3', y_eI, cond_true, y_in (show 4 * t < 48 by omega) (by decide), nI_clamp (show 4 * t < 2 ^ 31 by omega), h30, k1]
      · simp (maxSteps := 1000000) (disch := omega) only [sh_is0, sh_gI0, sh_wI0, sh_wZ0, sh_gR0, sh_gR1, sh_gR2, sh_lI0, sh_lI1, sh_lI2, sh_sI0, sh_sI1, sh_sI2, sh_len0, sh_len1, sh_len2, sh_lZ0, sh_sZ0, sh_gJ0, sh_wJ0, sh_lR0, sh_lJ0, sh_sJ0, y_eo, y_eb, y_in ht (by decide), nI_clamp (show t < 2 ^ 31 by omega), cond_true, h2]
  · obtain ⟨v, S', f1, f2⟩ := y_o_ask S hok hox (nI (x 0)) (nI (x 1)) (nI (x 2))
    refine ⟨v, S', fun d I J m t hm ht hZ h1 h2 h3 => ?_, fun d I J t ht hZ h2 h3 => ?_⟩
    · obtain ⟨I', J', k1, k2, k3⟩ := f1 d I J hZ
      refine ⟨I', J', b_HR_obey _ _ _ _ _ ?_, k2, k3⟩
      rw [show xz_gR (xz_SH, I, J) 0 7 5 = some 66 from rfl, y_eo, show xz_is (xz_SH, I, J) 66 5 = true from rfl, y_eb, y_Te_word (d + 29) J hm ht h1 h2, y_eI, if_neg (by decide), if_neg (by decide), if_neg (by decide), if_neg (by decide)]
      have n0 : zC (d + 30) q_Te_number [.ref 66, .int (nI t), .int (0 : Int32)] (xz_SH, I, J) = some (some (.int (nI (x 0))), (xz_SH, I, J)) := y_Te_number (d + 29) J hm ht (k := 0) (by decide) h1 (h3 0 (by decide))
      have n1 : zC (d + 30) q_Te_number [.ref 66, .int (nI t), .int (1 : Int32)] (xz_SH, I, J) = some (some (.int (nI (x 1))), (xz_SH, I, J)) := y_Te_number (d + 29) J hm ht (k := 1) (by decide) h1 (h3 1 (by decide))
      have n2 : zC (d + 30) q_Te_number [.ref 66, .int (nI t), .int (2 : Int32)] (xz_SH, I, J) = some (some (.int (nI (x 2))), (xz_SH, I, J)) := y_Te_number (d + 29) J hm ht (k := 2) (by decide) h1 (h3 2 (by decide))
      simp (maxSteps := 1000000) (disch := omega) only [sh_is0, sh_gI0, sh_wI0, sh_wZ0, sh_gR0, sh_gR1, sh_gR2, sh_lI0, sh_lI1, sh_lI2, sh_sI0, sh_sI1, sh_sI2, sh_len0, sh_len1, sh_len2, sh_lZ0, sh_sZ0, sh_gJ0, sh_wJ0, sh_lR0, sh_lJ0, sh_sJ0, y_eo, y_eb, n0, n1, n2, y_eI, k1]
    · obtain ⟨I', J', k1, k2, k3⟩ := f2 d I J hZ
      refine ⟨I', J', b_Mo_done _ _ _ _ _ ?_, k2, k3⟩
      rw [show xz_gR (xz_SH, I, J) 92 8 26 = some 106 from rfl, y_eo, show xz_lI0 (xz_SH, I, J) 0 106 (nI t) = some (nI 4) from ?_, y_eo, if_neg (by decide), if_neg (by decide), if_neg (by decide), if_neg (by decide)]
      · have h30 : I 107 (4 * t) = nI (x 0) := h3 0 (by decide)
        simp (maxSteps := 1000000) (disch := omega) only [sh_is0, sh_gI0, sh_wI0, sh_wZ0, sh_gR0, sh_gR1, sh_gR2, sh_lI0, sh_lI1, sh_lI2, sh_sI0, sh_sI1, sh_sI2, sh_len0, sh_len1, sh_len2, sh_lZ0, sh_sZ0, sh_gJ0, sh_wJ0, sh_lR0, sh_lJ0, sh_sJ0, y_eo, y_eb, y_4, y_1, y_2', y_3', y_eI, cond_true, y_in (show 4 * t < 48 by omega) (by decide), nI_clamp (show 4 * t < 2 ^ 31 by omega), h30, y_in (show 4 * t + 1 < 48 by omega) (by decide), nI_clamp (show 4 * t + 1 < 2 ^ 31 by omega), h3 1 (by decide), y_in (show 4 * t + 2 < 48 by omega) (by decide), nI_clamp (show 4 * t + 2 < 2 ^ 31 by omega), h3 2 (by decide), k1]
      · simp (maxSteps := 1000000) (disch := omega) only [sh_is0, sh_gI0, sh_wI0, sh_wZ0, sh_gR0, sh_gR1, sh_gR2, sh_lI0, sh_lI1, sh_lI2, sh_sI0, sh_sI1, sh_sI2, sh_len0, sh_len1, sh_len2, sh_lZ0, sh_sZ0, sh_gJ0, sh_wJ0, sh_lR0, sh_lJ0, sh_sJ0, y_eo, y_eb, y_in ht (by decide), nI_clamp (show t < 2 ^ 31 by omega), cond_true, h2]
