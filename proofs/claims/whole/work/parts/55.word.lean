/-! read: a word -/
theorem y_sp_l {n : Nat} {g : Nat → Nat} (hn : n ≤ 100) (hg : ∀ k, k < n → g k ≤ 127) {i p : Nat} (hi : i < 9) (hp : p + (y_st i).length ≤ n) : ∀ j k, k + j = (y_st i).length → ∃ b : Bool, (∀ d I J, y_tc n g I → I 66 5 = nI p → zL (d + 4) q_Te_isSpelt 9 [(0, .ref 66), (1, .ref (2000 + i)), (2, .int (nI (y_st i).length)), (3, .int (nI k))] (xz_SH, I, J) = some (some (.int (y_bI b)), (xz_SH, I, J))) ∧ ∀ d I J, y_tr n g I → I 92 23 = nI p → zL (d + 4) q_Mo_isWord 12 [(0, .ref 92), (1, .ref (2000 + i)), (3, .int (nI k))] (xz_SH, I, J) = some (some (.int (y_bI b)), (xz_SH, I, J))
  | 0, k, hk => by
    refine ⟨true, fun d I J ht hI => ?_, fun d I J ht hI => ?_⟩
    · refine b_Te_isSpelt_l9 _ _ _ _ _ _ _ ?_
      rw [if_pos (by rw [y_leI, nI_toInt (by omega), nI_toInt (by omega)]; omega)]
      rfl
    · refine b_Mo_isWord_l12 _ _ _ _ _ _ ?_
      rw [y_st_is hi, y_eb, y_sLen _ hi, y_eI, if_pos (by rw [y_leI, nI_toInt (by omega), nI_toInt (by omega)]; omega)]
      rfl
  | j + 1, k, hk => by
    have hl := (y_st_all i hi).1
    have hc := ((y_st_all i hi).2.2.2.2 k (by omega) (by omega)).2
    have hq := hg (p + k) (by omega)
    have es : y_sv n g (p + k) = nI (g (p + k)) := by
      unfold y_sv
      rw [if_pos (by omega)]
    by_cases e : g (p + k) = (y_st i).getD k 0
    · obtain ⟨b, f1, f2⟩ := y_sp_l hn hg hi hp j (k + 1) (by omega)
      refine ⟨b, fun d I J ht hI => ?_, fun d I J ht hI => ?_⟩
      · refine b_Te_isSpelt_l9 _ _ _ _ _ _ _ ?_
        rw [if_neg (by rw [y_leI, nI_toInt (by omega), nI_toInt (by omega)]; omega)]
        simp (maxSteps := 1000000) (disch := omega) only [sh_is0, sh_gI0, sh_wI0, sh_wZ0, sh_gR0, sh_gR1, sh_gR2, sh_lI0, sh_lI1, sh_lI2, sh_sI0, sh_sI1, sh_sI2, sh_len0, sh_len1, sh_len2, sh_lZ0, sh_sZ0, sh_gJ0, sh_wJ0, sh_lR0, sh_lJ0, sh_sJ0, y_eo, y_eb, hI, nI_add, y_Te_sign (d + 3) J ht (show p + k < 1000 by omega), y_st_is hi, y_sChr d hi (show k < (y_st i).length by omega), y_eI]
        rw [if_pos (by rw [es, e]), y_1]
        exact f1 d I J ht hI
      · refine b_Mo_isWord_l12 _ _ _ _ _ _ ?_
        rw [y_st_is hi, y_eb, y_sLen _ hi, y_eI, if_neg (by rw [y_leI, nI_toInt (by omega), nI_toInt (by omega)]; omega)]
        simp (maxSteps := 1000000) (disch := omega) only [sh_is0, sh_gI0, sh_wI0, sh_wZ0, sh_gR0, sh_gR1, sh_gR2, sh_lI0, sh_lI1, sh_lI2, sh_sI0, sh_sI1, sh_sI2, sh_len0, sh_len1, sh_len2, sh_lZ0, sh_sZ0, sh_gJ0, sh_wJ0, sh_lR0, sh_lJ0, sh_sJ0, y_eo, y_eb, hI, nI_add, y_st_is hi, y_sChr d hi (show k < (y_st i).length by omega), y_eI, y_in (show p + k < 100 by omega) (by decide), nI_clamp (show p + k < 2 ^ 31 by omega), cond_true, (ht.2.2 (p + k) (by omega)).2]
        rw [if_pos (by rw [e]), y_1]
        exact f2 d I J ht hI
    · refine ⟨false, fun d I J ht hI => ?_, fun d I J ht hI => ?_⟩
      · refine b_Te_isSpelt_l9 _ _ _ _ _ _ _ ?_
        rw [if_neg (by rw [y_leI, nI_toInt (by omega), nI_toInt (by omega)]; omega)]
        simp (maxSteps := 1000000) (disch := omega) only [sh_is0, sh_gI0, sh_wI0, sh_wZ0, sh_gR0, sh_gR1, sh_gR2, sh_lI0, sh_lI1, sh_lI2, sh_sI0, sh_sI1, sh_sI2, sh_len0, sh_len1, sh_len2, sh_lZ0, sh_sZ0, sh_gJ0, sh_wJ0, sh_lR0, sh_lJ0, sh_sJ0, y_eo, y_eb, hI, nI_add, y_Te_sign (d + 3) J ht (show p + k < 1000 by omega), y_st_is hi, y_sChr d hi (show k < (y_st i).length by omega), y_eI]
        rw [if_neg (by rw [es, y_eqI, nI_toInt (by omega), nI_toInt (by omega)]; omega)]
        rfl
      · refine b_Mo_isWord_l12 _ _ _ _ _ _ ?_
        rw [y_st_is hi, y_eb, y_sLen _ hi, y_eI, if_neg (by rw [y_leI, nI_toInt (by omega), nI_toInt (by omega)]; omega)]
        simp (maxSteps := 1000000) (disch := omega) only [sh_is0, sh_gI0, sh_wI0, sh_wZ0, sh_gR0, sh_gR1, sh_gR2, sh_lI0, sh_lI1, sh_lI2, sh_sI0, sh_sI1, sh_sI2, sh_len0, sh_len1, sh_len2, sh_lZ0, sh_sZ0, sh_gJ0, sh_wJ0, sh_lR0, sh_lJ0, sh_sJ0, y_eo, y_eb, hI, nI_add, y_st_is hi, y_sChr d hi (show k < (y_st i).length by omega), y_eI, y_in (show p + k < 100 by omega) (by decide), nI_clamp (show p + k < 2 ^ 31 by omega), cond_true, (ht.2.2 (p + k) (by omega)).2]
        rw [if_neg (by rw [y_eqI, nI_toInt (by omega), nI_toInt (by omega)]; omega)]
        rfl
theorem y_sp {n : Nat} {g : Nat → Nat} (hn : n ≤ 100) (hg : ∀ k, k < n → g k ≤ 127) {p e : Nat} (hp : p ≤ e) (he : e ≤ n) (i : Nat) (hi : i < 9) : ∃ b : Bool, (b = true → e = p + (y_st i).length) ∧ (∀ d I J, y_tc n g I → I 66 5 = nI p → zC (d + 5) q_Te_isSpelt [.ref 66, .ref (2000 + i), .int (nI (e - p))] (xz_SH, I, J) = some (some (.int (y_bI b)), (xz_SH, I, J))) ∧ ∀ d I J, y_tr n g I → I 92 23 = nI p → zC (d + 5) q_Mo_isWord [.ref 92, .ref (2000 + i), .int (nI e)] (xz_SH, I, J) = some (some (.int (y_bI b)), (xz_SH, I, J)) := by
  have hl := (y_st_all i hi).1
  by_cases h : (y_st i).length = e - p
  · obtain ⟨b, f1, f2⟩ := y_sp_l hn hg hi (show p + (y_st i).length ≤ n by omega) (y_st i).length 0 (by omega)
    refine ⟨b, fun _ => by omega, fun d I J ht hI => ?_, fun d I J ht hI => ?_⟩
    · refine b_Te_isSpelt _ _ _ _ _ _ ?_
      rw [y_st_is hi, y_eb, y_sLen _ hi, y_eI, if_pos (by rw [h]), ← h]
      exact f1 d I J ht hI
    · refine b_Mo_isWord _ _ _ _ _ _ ?_
      rw [y_st_is hi, y_eb, y_sLen _ hi, y_eI]
      simp (maxSteps := 1000000) (disch := omega) only [sh_is0, sh_gI0, sh_wI0, sh_wZ0, sh_gR0, sh_gR1, sh_gR2, sh_lI0, sh_lI1, sh_lI2, sh_sI0, sh_sI1, sh_sI2, sh_len0, sh_len1, sh_len2, sh_lZ0, sh_sZ0, sh_gJ0, sh_wJ0, sh_lR0, sh_lJ0, sh_sJ0, y_eo, y_eb, hI, y_sub hp]
      rw [if_pos (by rw [h])]
      exact f2 d I J ht hI
  · refine ⟨false, fun h => (by cases h), fun d I J ht hI => ?_, fun d I J ht hI => ?_⟩
    · refine b_Te_isSpelt _ _ _ _ _ _ ?_
      rw [y_st_is hi, y_eb, y_sLen _ hi, y_eI, if_neg (by rw [y_eqI, nI_toInt (by omega), nI_toInt (by omega)]; omega)]
      rfl
    · refine b_Mo_isWord _ _ _ _ _ _ ?_
      rw [y_st_is hi, y_eb, y_sLen _ hi, y_eI]
      simp (maxSteps := 1000000) (disch := omega) only [sh_is0, sh_gI0, sh_wI0, sh_wZ0, sh_gR0, sh_gR1, sh_gR2, sh_lI0, sh_lI1, sh_lI2, sh_sI0, sh_sI1, sh_sI2, sh_len0, sh_len1, sh_len2, sh_lZ0, sh_sZ0, sh_gJ0, sh_wJ0, sh_lR0, sh_lJ0, sh_sJ0, y_eo, y_eb, hI, y_sub hp]
      rw [if_neg (by rw [y_eqI, nI_toInt (by omega), nI_toInt (by omega)]; omega)]
      rfl
/-- the end of the letters -/
theorem y_end {n : Nat} {g : Nat → Nat} (hn : n ≤ 100) (hg : ∀ k, k < n → g k ≤ 127) : ∀ j q, q + j = n → ∃ e, q ≤ e ∧ e ≤ n ∧ y_rg (y_sv n g e) 97 122 = false ∧ (∀ d I J r, y_tc n g I → zL (d + 1) q_Te_wordHere 18 [(0, .ref 66), (1, .int (nI e)), (2, .int 0)] (xz_SH, I, J) = some r → zL (d + 1) q_Te_wordHere 4 [(0, .ref 66), (1, .int (nI q))] (xz_SH, I, J) = some r) ∧ ∀ d I J r, y_tr n g I → zL (d + 1) q_Mo_wordRead 4 [(0, .ref 92), (1, .int (nI e))] (xz_SH, I, J) = some r → zL (d + 1) q_Mo_wordRead 4 [(0, .ref 92), (1, .int (nI q))] (xz_SH, I, J) = some r
  | 0, q, hq => by
    refine ⟨q, Nat.le_refl _, by omega, ?_, fun d I J r ht h => ?_, fun d I J r ht h => h⟩
    · unfold y_sv
      rw [if_neg (by omega)]
      decide
    · refine b_Te_wordHere_l4 _ _ _ _ _ ?_
      simp (maxSteps := 1000000) (disch := omega) only [sh_is0, sh_gI0, sh_wI0, sh_wZ0, sh_gR0, sh_gR1, sh_gR2, sh_lI0, sh_lI1, sh_lI2, sh_sI0, sh_sI1, sh_sI2, sh_len0, sh_len1, sh_len2, sh_lZ0, sh_sZ0, sh_gJ0, sh_wJ0, sh_lR0, sh_lJ0, sh_sJ0, y_eo, y_eb, ht.2.1]
      rw [if_pos (by rw [y_leI, nI_toInt (by omega), nI_toInt (by omega)]; omega)]
      exact h
  | j + 1, q, hq => by
    cases hd : y_rg (y_sv n g q) 97 122 with
    | false =>
      refine ⟨q, Nat.le_refl _, by omega, hd, fun d I J r ht h => ?_, fun d I J r ht h => h⟩
      refine b_Te_wordHere_l4 _ _ _ _ _ ?_
      simp (maxSteps := 1000000) (disch := omega) only [sh_is0, sh_gI0, sh_wI0, sh_wZ0, sh_gR0, sh_gR1, sh_gR2, sh_lI0, sh_lI1, sh_lI2, sh_sI0, sh_sI1, sh_sI2, sh_len0, sh_len1, sh_len2, sh_lZ0, sh_sZ0, sh_gJ0, sh_wJ0, sh_lR0, sh_lJ0, sh_sJ0, y_eo, y_eb, ht.2.1]
      rw [if_neg (by rw [y_leI, nI_toInt (by omega), nI_toInt (by omega)]; omega)]
      rw [y_Te_sign d J ht (show q < 1000 by omega), y_eI, y_Te_isLetter, hd, y_eI, if_pos (by decide)]
      exact h
    | true =>
      obtain ⟨e, f1, f2, f3, f4, f5⟩ := y_end hn hg j (q + 1) (by omega)
      refine ⟨e, by omega, f2, f3, fun d I J r ht h => ?_, fun d I J r ht h => ?_⟩
      · refine b_Te_wordHere_l4 _ _ _ _ _ ?_
        simp (maxSteps := 1000000) (disch := omega) only [sh_is0, sh_gI0, sh_wI0, sh_wZ0, sh_gR0, sh_gR1, sh_gR2, sh_lI0, sh_lI1, sh_lI2, sh_sI0, sh_sI1, sh_sI2, sh_len0, sh_len1, sh_len2, sh_lZ0, sh_sZ0, sh_gJ0, sh_wJ0, sh_lR0, sh_lJ0, sh_sJ0, y_eo, y_eb, ht.2.1]
        rw [if_neg (by rw [y_leI, nI_toInt (by omega), nI_toInt (by omega)]; omega)]
        rw [y_Te_sign d J ht (show q < 1000 by omega), y_eI, y_Te_isLetter, hd, y_eI, if_neg (by decide), y_1]
        exact f4 d I J r ht h
      · refine b_Mo_wordRead_l4 _ _ _ _ _ ?_
        simp (maxSteps := 1000000) (disch := omega) only [sh_is0, sh_gI0, sh_wI0, sh_wZ0, sh_gR0, sh_gR1, sh_gR2, sh_lI0, sh_lI1, sh_lI2, sh_sI0, sh_sI1, sh_sI2, sh_len0, sh_len1, sh_len2, sh_lZ0, sh_sZ0, sh_gJ0, sh_wJ0, sh_lR0, sh_lJ0, sh_sJ0, y_eo, y_eb]
        rw [y_Mo_signAt d J ht (show q < 1000 by omega), y_eI, y_Mo_inI _ (y_sv n g q) 97 122 (l := 97) (h := 122) (by decide) (by decide), hd, y_eI, if_neg (by decide), y_1]
        exact f5 d I J r ht h
