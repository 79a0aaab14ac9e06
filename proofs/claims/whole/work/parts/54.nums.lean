/-! read: a number of at most w digits -/
theorem y_10 (a : Nat) : nI a * (10 : Int32) = nI (a * 10) := (Int32.ofNat_mul a 10).symm
theorem y_10' (a : Nat) : (10 : Int32) * nI a = nI (a * 10) := by rw [Int32.mul_comm, y_10]
theorem y_48 {a : Nat} (h : 48 ≤ a) : nI a - (48 : Int32) = nI (a - 48) := y_sub h
theorem y_dig {n : Nat} {g : Nat → Nat} (hg : ∀ k, k < n → g k ≤ 127) {p : Nat} (h : y_rg (y_sv n g p) 48 57 = true) : p < n ∧ 48 ≤ g p ∧ g p ≤ 57 ∧ y_sv n g p = nI (g p) := by
  have h' := y_rgt.mp h
  rw [(y_sv_i hg p).1] at h'
  have e : p < n := by
    refine Decidable.byContradiction fun e => ?_
    unfold y_sg at h'
    rw [if_neg e] at h'
    omega
  unfold y_sg at h'
  rw [if_pos e] at h'
  refine ⟨e, by omega, by omega, ?_⟩
  unfold y_sv
  rw [if_pos e]
theorem y_num_l {n : Nat} {g : Nat → Nat} (hn : n ≤ 100) (hg : ∀ k, k < n → g k ≤ 127) {w : Nat} (hw : w ≤ 3) : ∀ j c v p, c + j = w → 1 ≤ c → p ≤ n → ∃ v' p', p ≤ p' ∧ p' ≤ n ∧ (∀ d I J, y_tc n g I → I 66 5 = nI p → ∃ I', zL (d + 1) q_Te_takeNumber 5 [(0, .ref 66), (1, .int (nI w)), (2, .int (nI v)), (3, .int (nI c))] (xz_SH, I, J) = some (some (.int (nI v')), (xz_SH, I', J)) ∧ y_w1 I I' 66 5 (nI p')) ∧ (∀ d I J, y_tr n g I → I 92 23 = nI p → ∃ I', zL (d + 1) q_Mo_numberRead 28 [(0, .ref 92), (1, .int (nI w)), (2, .int (nI c)), (3, .int (nI v))] (xz_SH, I, J) = some (some (.int (nI v')), (xz_SH, I', J)) ∧ y_w1 I I' 92 23 (nI p'))
  | 0, c, v, p, hc, h1, hp => by
    refine ⟨v, p, Nat.le_refl _, hp, fun d I J ht hI => ⟨I, ?_, y_w1_r hI⟩, fun d I J ht hI => ⟨I, ?_, y_w1_r hI⟩⟩
    · refine b_Te_takeNumber_l5 _ _ _ _ _ _ _ ?_
      rw [if_pos (by rw [y_leI, nI_toInt (by omega), nI_toInt (by omega)]; omega)]
    · refine b_Mo_numberRead_l28 _ _ _ _ _ _ _ ?_
      rw [if_pos (by rw [y_leI, nI_toInt (by omega), nI_toInt (by omega)]; omega), if_neg (by rw [y_eqI, nI_toInt (by omega)]; simp only [y_lit]; omega)]
  | j + 1, c, v, p, hc, h1, hp => by
    cases hd : y_rg (y_sv n g p) 48 57 with
    | false =>
      refine ⟨v, p, Nat.le_refl _, hp, fun d I J ht hI => ⟨I, ?_, y_w1_r hI⟩, fun d I J ht hI => ⟨I, ?_, y_w1_r hI⟩⟩
      · refine b_Te_takeNumber_l5 _ _ _ _ _ _ _ ?_
        rw [if_neg (by rw [y_leI, nI_toInt (by omega), nI_toInt (by omega)]; omega)]
        simp (maxSteps := 1000000) (disch := omega) only [sh_is0, sh_gI0, sh_wI0, sh_wZ0, sh_gR0, sh_gR1, sh_gR2, sh_lI0, sh_lI1, sh_lI2, sh_sI0, sh_sI1, sh_sI2, sh_len0, sh_len1, sh_len2, sh_lZ0, sh_sZ0, sh_gJ0, sh_wJ0, sh_lR0, sh_lJ0, sh_sJ0, y_eo, y_eb, hI, y_Te_sign d J ht (show p < 1000 by omega), y_Te_isDigit, hd, y_eI]
        rw [if_pos (by decide)]
      · refine b_Mo_numberRead_l28 _ _ _ _ _ _ _ ?_
        rw [if_neg (by rw [y_leI, nI_toInt (by omega), nI_toInt (by omega)]; omega)]
        simp (maxSteps := 1000000) (disch := omega) only [sh_is0, sh_gI0, sh_wI0, sh_wZ0, sh_gR0, sh_gR1, sh_gR2, sh_lI0, sh_lI1, sh_lI2, sh_sI0, sh_sI1, sh_sI2, sh_len0, sh_len1, sh_len2, sh_lZ0, sh_sZ0, sh_gJ0, sh_wJ0, sh_lR0, sh_lJ0, sh_sJ0, y_eo, y_eb, hI, y_Mo_signAt d J ht (show p < 1000 by omega), y_Mo_inI _ (y_sv n g p) 48 57 (l := 48) (h := 57) (by decide) (by decide), hd, y_eI]
        rw [if_pos (by decide), if_neg (by rw [y_eqI, nI_toInt (by omega)]; simp only [y_lit]; omega)]
    | true =>
      obtain ⟨e1, e2, e3, e4⟩ := y_dig hg hd
      obtain ⟨v', p', f1, f2, f3, f4⟩ := y_num_l hn hg hw j (c + 1) (v * 10 + g p - 48) (p + 1) (by omega) (by omega) (by omega)
      refine ⟨v', p', by omega, f2, fun d I J ht hI => ?_, fun d I J ht hI => ?_⟩
      · obtain ⟨I', k1, k2⟩ := f3 d (xz_up I 66 5 (nI (p + 1))) J (y_tc_w (y_up_n (by omega)) (fun k => y_up_n (by omega)) ht) (y_up_e ⟨rfl, rfl⟩)
        refine ⟨I', ?_, y_w1_t (y_w1_u _ _ _ _) k2⟩
        refine b_Te_takeNumber_l5 _ _ _ _ _ _ _ ?_
        rw [if_neg (by rw [y_leI, nI_toInt (by omega), nI_toInt (by omega)]; omega)]
        simp (maxSteps := 1000000) (disch := omega) only [sh_is0, sh_gI0, sh_wI0, sh_wZ0, sh_gR0, sh_gR1, sh_gR2, sh_lI0, sh_lI1, sh_lI2, sh_sI0, sh_sI1, sh_sI2, sh_len0, sh_len1, sh_len2, sh_lZ0, sh_sZ0, sh_gJ0, sh_wJ0, sh_lR0, sh_lJ0, sh_sJ0, y_eo, y_eb, hI, y_Te_sign d J ht (show p < 1000 by omega), y_Te_isDigit, hd, y_eI]
        rw [if_neg (by decide), e4, y_10, nI_add, y_48 (by omega), y_1, y_1]
        exact k1
      · obtain ⟨I', k1, k2⟩ := f4 d (xz_up I 92 23 (nI (p + 1))) J (y_tr_w (y_up_n (by omega)) (fun k => y_up_n (by omega)) ht) (y_up_e ⟨rfl, rfl⟩)
        refine ⟨I', ?_, y_w1_t (y_w1_u _ _ _ _) k2⟩
        refine b_Mo_numberRead_l28 _ _ _ _ _ _ _ ?_
        rw [if_neg (by rw [y_leI, nI_toInt (by omega), nI_toInt (by omega)]; omega)]
        simp (maxSteps := 1000000) (disch := omega) only [sh_is0, sh_gI0, sh_wI0, sh_wZ0, sh_gR0, sh_gR1, sh_gR2, sh_lI0, sh_lI1, sh_lI2, sh_sI0, sh_sI1, sh_sI2, sh_len0, sh_len1, sh_len2, sh_lZ0, sh_sZ0, sh_gJ0, sh_wJ0, sh_lR0, sh_lJ0, sh_sJ0, y_eo, y_eb, hI, y_Mo_signAt d J ht (show p < 1000 by omega), y_Mo_inI _ (y_sv n g p) 48 57 (l := 48) (h := 57) (by decide) (by decide), hd, y_eI]
        rw [if_neg (by decide)]
        simp (maxSteps := 1000000) (disch := omega) only [sh_is0, sh_gI0, sh_wI0, sh_wZ0, sh_gR0, sh_gR1, sh_gR2, sh_lI0, sh_lI1, sh_lI2, sh_sI0, sh_sI1, sh_sI2, sh_len0, sh_len1, sh_len2, sh_lZ0, sh_sZ0, sh_gJ0, sh_wJ0, sh_lR0, sh_lJ0, sh_sJ0, y_eo, y_eb, y_in (show p < 100 by omega) (by decide), nI_clamp (show p < 2 ^ 31 by omega), cond_true, (ht.2.2 p e1).2, y_10', nI_add, y_48 (show 48 ≤ v * 10 + g p by omega), y_1]
        exact k1
/-- a whole number: the fault's place, or the number and the place behind it -/
theorem y_num {n : Nat} {g : Nat → Nat} (hn : n ≤ 100) (hg : ∀ k, k < n → g k ≤ 127) {w : Nat} (h1 : 1 ≤ w) (hw : w ≤ 3) {p : Nat} (hp : p ≤ n) (hs : y_rg (y_sv n g p) 48 57 = true) : ∃ v' p', p < p' ∧ p' ≤ n ∧ (∀ d I J, y_tc n g I → I 66 5 = nI p → ∃ I', zC (d + 2) q_Te_takeNumber [.ref 66, .int (nI w)] (xz_SH, I, J) = some (some (.int (nI v')), (xz_SH, I', J)) ∧ y_w1 I I' 66 5 (nI p')) ∧ (∀ d I J, y_tr n g I → I 92 23 = nI p → ∃ I', zL (d + 1) q_Mo_numberRead 28 [(0, .ref 92), (1, .int (nI w)), (2, .int 0), (3, .int 0)] (xz_SH, I, J) = some (some (.int (nI v')), (xz_SH, I', J)) ∧ y_w1 I I' 92 23 (nI p')) := by
  obtain ⟨e1, e2, e3, e4⟩ := y_dig hg hs
  obtain ⟨v', p', f1, f2, f3, f4⟩ := y_num_l hn hg hw (w - 1) 1 (g p - 48) (p + 1) (by omega) (by omega) (by omega)
  refine ⟨v', p', by omega, f2, fun d I J ht hI => ?_, fun d I J ht hI => ?_⟩
  · obtain ⟨I', k1, k2⟩ := f3 d (xz_up I 66 5 (nI (p + 1))) J (y_tc_w (y_up_n (by omega)) (fun k => y_up_n (by omega)) ht) (y_up_e ⟨rfl, rfl⟩)
    refine ⟨I', ?_, y_w1_t (y_w1_u _ _ _ _) k2⟩
    refine b_Te_takeNumber _ _ _ _ _ (b_Te_takeNumber_l5 _ _ _ _ _ _ _ ?_)
    rw [if_neg (by rw [y_leI, nI_toInt (by omega)]; simp only [y_lit]; omega)]
    simp (maxSteps := 1000000) (disch := omega) only [sh_is0, sh_gI0, sh_wI0, sh_wZ0, sh_gR0, sh_gR1, sh_gR2, sh_lI0, sh_lI1, sh_lI2, sh_sI0, sh_sI1, sh_sI2, sh_len0, sh_len1, sh_len2, sh_lZ0, sh_sZ0, sh_gJ0, sh_wJ0, sh_lR0, sh_lJ0, sh_sJ0, y_eo, y_eb, hI, y_Te_sign d J ht (show p < 1000 by omega), y_Te_isDigit, hs, y_eI]
    rw [if_neg (by decide), e4, show (0 : Int32) * 10 + nI (g p) = nI (g p) from Int32.zero_add _, y_48 (by omega), y_1]
    exact k1
  · obtain ⟨I', k1, k2⟩ := f4 d (xz_up I 92 23 (nI (p + 1))) J (y_tr_w (y_up_n (by omega)) (fun k => y_up_n (by omega)) ht) (y_up_e ⟨rfl, rfl⟩)
    refine ⟨I', ?_, y_w1_t (y_w1_u _ _ _ _) k2⟩
    refine b_Mo_numberRead_l28 _ _ _ _ _ _ _ ?_
    rw [if_neg (by rw [y_leI, nI_toInt (by omega)]; simp only [y_lit]; omega)]
    simp (maxSteps := 1000000) (disch := omega) only [sh_is0, sh_gI0, sh_wI0, sh_wZ0, sh_gR0, sh_gR1, sh_gR2, sh_lI0, sh_lI1, sh_lI2, sh_sI0, sh_sI1, sh_sI2, sh_len0, sh_len1, sh_len2, sh_lZ0, sh_sZ0, sh_gJ0, sh_wJ0, sh_lR0, sh_lJ0, sh_sJ0, y_eo, y_eb, hI, y_Mo_signAt d J ht (show p < 1000 by omega), y_Mo_inI _ (y_sv n g p) 48 57 (l := 48) (h := 57) (by decide) (by decide), hs, y_eI]
    rw [if_neg (by decide)]
    simp (maxSteps := 1000000) (disch := omega) only [sh_is0, sh_gI0, sh_wI0, sh_wZ0, sh_gR0, sh_gR1, sh_gR2, sh_lI0, sh_lI1, sh_lI2, sh_sI0, sh_sI1, sh_sI2, sh_len0, sh_len1, sh_len2, sh_lZ0, sh_sZ0, sh_gJ0, sh_wJ0, sh_lR0, sh_lJ0, sh_sJ0, y_eo, y_eb, y_in (show p < 100 by omega) (by decide), nI_clamp (show p < 2 ^ 31 by omega), cond_true, (ht.2.2 p e1).2, y_1]
    rw [show (10 : Int32) * 0 + nI (g p) = nI (g p) from Int32.zero_add _, y_48 (by omega)]
    exact k1
