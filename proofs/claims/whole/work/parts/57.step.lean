/-! read: one number of a clause -/
theorem y_shK {c : Nat} (hc : c < 12) (I : Nat → Nat → Int32) (J : Nat → Nat → Int64) : xz_lR0 (xz_SH, I, J) 69 (nI c) = some (70 + c) ∧ (∀ i v, xz_sI0 (xz_SH, I, J) (70 + c) i v = bif xz_in i 4 then some (xz_SH, xz_up I (70 + c) i.toNatClampNeg v, J) else none) ∧ (∀ i, xz_lI0 (xz_SH, I, J) 0 (70 + c) i = bif xz_in i 4 then some (I (70 + c) i.toNatClampNeg) else none) := by
  have a1 : xz_lR0 (xz_SH, I, J) 69 (nI c) = (bif xz_in (nI c) 12 then ([some 70, some 71, some 72, some 73, some 74, some 75, some 76, some 77, some 78, some 79, some 80, some 81] : List (Option Nat)).getD (nI c).toNatClampNeg none else none) := rfl
  rw [a1, y_in hc (by decide), nI_clamp (by omega)]
  have hd : c = 0 ∨ c = 1 ∨ c = 2 ∨ c = 3 ∨ c = 4 ∨ c = 5 ∨ c = 6 ∨ c = 7 ∨ c = 8 ∨ c = 9 ∨ c = 10 ∨ c = 11 := by omega
  rcases hd with rfl | rfl | rfl | rfl | rfl | rfl | rfl | rfl | rfl | rfl | rfl | rfl <;> exact ⟨rfl, fun _ _ => rfl, fun _ => rfl⟩
def y_nsF (n : Nat) (g : Nat → Nat) (p w f : Nat) : Prop := f ≤ n ∧ (∀ d I J c i k, c < 12 → i < 9 → k < (y_st i).length → k < 4 → (y_st i).getD k 0 = 48 + w → y_tc n g I → I 66 5 = nI p → ∃ I', zL (d + 5) q_Te_takeClause 27 [(0, .ref 66), (1, .int (nI c)), (3, .ref (2000 + i)), (4, .int (nI k))] (xz_SH, I, J) = some (some (.int 0), (xz_SH, I', J)) ∧ y_w1 I I' 66 5 (nI f)) ∧ ∀ d I J, y_tr n g I → I 92 23 = nI p → I 92 24 = -1 → ∃ I', zC (d + 2) q_Mo_numberRead [.ref 92, .int (nI w)] (xz_SH, I, J) = some (some (.int 0), (xz_SH, xz_up I' 92 24 (nI f), J)) ∧ y_w1 I I' 92 23 (nI f)
def y_nsG (n : Nat) (g : Nat → Nat) (p w v p' : Nat) : Prop := p' ≤ n ∧ (∀ d I J c i k, c < 12 → i < 9 → k < (y_st i).length → k < 4 → (y_st i).getD k 0 = 48 + w → y_tc n g I → I 66 5 = nI p → ∃ I', y_w1 I I' 66 5 (nI p') ∧ ∀ r, zL (d + 5) q_Te_takeClause 27 [(0, .ref 66), (1, .int (nI c)), (3, .ref (2000 + i)), (4, .int (nI (k + 1)))] (xz_SH, xz_up I' (70 + c) k (nI v), J) = some r → zL (d + 5) q_Te_takeClause 27 [(0, .ref 66), (1, .int (nI c)), (3, .ref (2000 + i)), (4, .int (nI k))] (xz_SH, I, J) = some r) ∧ ∀ d I J, y_tr n g I → I 92 23 = nI p → I 92 24 = -1 → ∃ I', zC (d + 2) q_Mo_numberRead [.ref 92, .int (nI w)] (xz_SH, I, J) = some (some (.int (nI v)), (xz_SH, I', J)) ∧ y_w1 I I' 92 23 (nI p')
theorem y_ns {n : Nat} {g : Nat → Nat} (hn : n ≤ 100) (hg : ∀ k, k < n → g k ≤ 127) {p : Nat} (hp : p ≤ n) {w : Nat} (w1 : 1 ≤ w) (w3 : w ≤ 3) : (∃ f, y_nsF n g p w f) ∨ ∃ v p', y_nsG n g p w v p' := by
  by_cases h : y_sv n g p = 32
  · have hpn : p < n := by
      refine Decidable.byContradiction fun e => ?_
      unfold y_sv at h
      rw [if_neg e] at h
      exact absurd h (by decide)
    have qc : ∀ I, y_tc n g I → y_tc n g (xz_up I 66 5 (nI (p + 1))) := fun I ht => y_tc_w (y_up_n (by omega)) (fun k => y_up_n (by omega)) ht
    have qr : ∀ I, y_tr n g I → y_tr n g (xz_up I 92 23 (nI (p + 1))) := fun I ht => y_tr_w (y_up_n (by omega)) (fun k => y_up_n (by omega)) ht
    cases hd : y_rg (y_sv n g (p + 1)) 48 57 with
    | false =>
      refine Or.inl ⟨p + 1, by omega, fun d I J c i k hc hi hk hk4 hw ht hI => ⟨_, ?_, y_w1_u _ _ _ _⟩, fun d I J ht hI hf => ⟨xz_up I 92 23 (nI (p + 1)), ?_, y_w1_u _ _ _ _⟩⟩
      · refine b_Te_takeClause_l27 _ _ _ _ _ _ _ ?_
        rw [y_st_is hi, y_eb, y_sLen _ hi, y_eI, if_neg (by rw [y_leI, nI_toInt (by have := (y_st_all i hi).1; omega), nI_toInt (by omega)]; omega), if_neg (by rw [y_leI, nI_toInt (by omega)]; simp only [y_lit]; omega)]
        simp (maxSteps := 1000000) (disch := omega) only [sh_is0, sh_gI0, sh_wI0, sh_wZ0, sh_gR0, sh_gR1, sh_gR2, sh_lI0, sh_lI1, sh_lI2, sh_sI0, sh_sI1, sh_sI2, sh_len0, sh_len1, sh_len2, sh_lZ0, sh_sZ0, sh_gJ0, sh_wJ0, sh_lR0, sh_lJ0, sh_sJ0, y_eo, y_eb, hI, y_Te_sign (d + 4) J ht (show p < 1000 by omega), y_eI]
        rw [if_pos h]
        simp (maxSteps := 1000000) (disch := omega) only [sh_is0, sh_gI0, sh_wI0, sh_wZ0, sh_gR0, sh_gR1, sh_gR2, sh_lI0, sh_lI1, sh_lI2, sh_sI0, sh_sI1, sh_sI2, sh_len0, sh_len1, sh_len2, sh_lZ0, sh_sZ0, sh_gJ0, sh_wJ0, sh_lR0, sh_lJ0, sh_sJ0, y_eo, y_eb, hI, y_1, y_up_e, y_Te_sign (d + 4) J (qc I ht) (show p + 1 < 1000 by omega), y_eI, y_Te_isDigit, hd]
        rw [if_pos (by decide)]
      · refine b_Mo_numberRead _ _ _ _ _ ?_
        simp (maxSteps := 1000000) (disch := omega) only [sh_is0, sh_gI0, sh_wI0, sh_wZ0, sh_gR0, sh_gR1, sh_gR2, sh_lI0, sh_lI1, sh_lI2, sh_sI0, sh_sI1, sh_sI2, sh_len0, sh_len1, sh_len2, sh_lZ0, sh_sZ0, sh_gJ0, sh_wJ0, sh_lR0, sh_lJ0, sh_sJ0, y_eo, y_eb, hf]
        rw [if_pos (by decide)]
        simp (maxSteps := 1000000) (disch := omega) only [sh_is0, sh_gI0, sh_wI0, sh_wZ0, sh_gR0, sh_gR1, sh_gR2, sh_lI0, sh_lI1, sh_lI2, sh_sI0, sh_sI1, sh_sI2, sh_len0, sh_len1, sh_len2, sh_lZ0, sh_sZ0, sh_gJ0, sh_wJ0, sh_lR0, sh_lJ0, sh_sJ0, y_eo, y_eb, hI, y_Mo_signAt d J ht (show p < 1000 by omega), y_eI]
        rw [if_pos h]
        simp (maxSteps := 1000000) (disch := omega) only [sh_is0, sh_gI0, sh_wI0, sh_wZ0, sh_gR0, sh_gR1, sh_gR2, sh_lI0, sh_lI1, sh_lI2, sh_sI0, sh_sI1, sh_sI2, sh_len0, sh_len1, sh_len2, sh_lZ0, sh_sZ0, sh_gJ0, sh_wJ0, sh_lR0, sh_lJ0, sh_sJ0, y_eo, y_eb, y_1]
        refine b_Mo_numberRead_l28 _ _ _ _ _ _ _ ?_
        rw [if_neg (by rw [y_leI, nI_toInt (by omega)]; simp only [y_lit]; omega)]
        simp (maxSteps := 1000000) (disch := omega) only [sh_is0, sh_gI0, sh_wI0, sh_wZ0, sh_gR0, sh_gR1, sh_gR2, sh_lI0, sh_lI1, sh_lI2, sh_sI0, sh_sI1, sh_sI2, sh_len0, sh_len1, sh_len2, sh_lZ0, sh_sZ0, sh_gJ0, sh_wJ0, sh_lR0, sh_lJ0, sh_sJ0, y_eo, y_eb, y_up_e, y_Mo_signAt d J (qr I ht) (show p + 1 < 1000 by omega), y_eI, y_Mo_inI _ (y_sv n g (p + 1)) 48 57 (l := 48) (h := 57) (by decide) (by decide), hd, y_eI]
        rw [if_pos (by decide)]
        simp (maxSteps := 1000000) (disch := omega) only [sh_is0, sh_gI0, sh_wI0, sh_wZ0, sh_gR0, sh_gR1, sh_gR2, sh_lI0, sh_lI1, sh_lI2, sh_sI0, sh_sI1, sh_sI2, sh_len0, sh_len1, sh_len2, sh_lZ0, sh_sZ0, sh_gJ0, sh_wJ0, sh_lR0, sh_lJ0, sh_sJ0, y_eo, y_eb, if_true, y_up_e]
    | true =>
      obtain ⟨v, p', f1, f2, f3, f4⟩ := y_num hn hg w1 w3 (show p + 1 ≤ n by omega) hd
      refine Or.inr ⟨v, p', f2, fun d I J c i k hc hi hk hk4 hw ht hI => ?_, fun d I J ht hI hf => ?_⟩
      · obtain ⟨I', k1, k2⟩ := f3 (d + 3) (xz_up I 66 5 (nI (p + 1))) J (qc I ht) (y_up_e ⟨rfl, rfl⟩)
        refine ⟨I', y_w1_t (y_w1_u _ _ _ _) k2, fun r hr => ?_⟩
        refine b_Te_takeClause_l27 _ _ _ _ _ _ _ ?_
        rw [y_st_is hi, y_eb, y_sLen _ hi, y_eI, if_neg (by rw [y_leI, nI_toInt (by have := (y_st_all i hi).1; omega), nI_toInt (by omega)]; omega), if_neg (by rw [y_leI, nI_toInt (by omega)]; simp only [y_lit]; omega)]
        simp (maxSteps := 1000000) (disch := omega) only [sh_is0, sh_gI0, sh_wI0, sh_wZ0, sh_gR0, sh_gR1, sh_gR2, sh_lI0, sh_lI1, sh_lI2, sh_sI0, sh_sI1, sh_sI2, sh_len0, sh_len1, sh_len2, sh_lZ0, sh_sZ0, sh_gJ0, sh_wJ0, sh_lR0, sh_lJ0, sh_sJ0, y_eo, y_eb, hI, y_Te_sign (d + 4) J ht (show p < 1000 by omega), y_eI]
        rw [if_pos h]
        simp (maxSteps := 1000000) (disch := omega) only [sh_is0, sh_gI0, sh_wI0, sh_wZ0, sh_gR0, sh_gR1, sh_gR2, sh_lI0, sh_lI1, sh_lI2, sh_sI0, sh_sI1, sh_sI2, sh_len0, sh_len1, sh_len2, sh_lZ0, sh_sZ0, sh_gJ0, sh_wJ0, sh_lR0, sh_lJ0, sh_sJ0, y_eo, y_eb, hI, y_1, y_up_e, y_Te_sign (d + 4) J (qc I ht) (show p + 1 < 1000 by omega), y_eI, y_Te_isDigit, hd]
        rw [if_neg (by decide)]
        simp (maxSteps := 1000000) (disch := omega) only [sh_is0, sh_gI0, sh_wI0, sh_wZ0, sh_gR0, sh_gR1, sh_gR2, sh_lI0, sh_lI1, sh_lI2, sh_sI0, sh_sI1, sh_sI2, sh_len0, sh_len1, sh_len2, sh_lZ0, sh_sZ0, sh_gJ0, sh_wJ0, sh_lR0, sh_lJ0, sh_sJ0, y_eo, y_eb, y_st_is hi, y_sChr (d + 1) hi hk, y_eI, hw, y_48 (show 48 ≤ 48 + w by omega), Nat.add_sub_cancel_left, k1]
        refine Eq.trans (congrArg (fun z => xz_o z _) (y_shK hc I' J).1) ?_
        rw [y_eo, (y_shK hc I' J).2.1, y_in hk4 (by decide), nI_clamp (by omega), cond_true, y_eo]
        exact hr
      · obtain ⟨I', k1, k2⟩ := f4 d (xz_up I 92 23 (nI (p + 1))) J (qr I ht) (y_up_e ⟨rfl, rfl⟩)
        refine ⟨I', ?_, y_w1_t (y_w1_u _ _ _ _) k2⟩
        refine b_Mo_numberRead _ _ _ _ _ ?_
        simp (maxSteps := 1000000) (disch := omega) only [sh_is0, sh_gI0, sh_wI0, sh_wZ0, sh_gR0, sh_gR1, sh_gR2, sh_lI0, sh_lI1, sh_lI2, sh_sI0, sh_sI1, sh_sI2, sh_len0, sh_len1, sh_len2, sh_lZ0, sh_sZ0, sh_gJ0, sh_wJ0, sh_lR0, sh_lJ0, sh_sJ0, y_eo, y_eb, hf]
        rw [if_pos (by decide)]
        simp (maxSteps := 1000000) (disch := omega) only [sh_is0, sh_gI0, sh_wI0, sh_wZ0, sh_gR0, sh_gR1, sh_gR2, sh_lI0, sh_lI1, sh_lI2, sh_sI0, sh_sI1, sh_sI2, sh_len0, sh_len1, sh_len2, sh_lZ0, sh_sZ0, sh_gJ0, sh_wJ0, sh_lR0, sh_lJ0, sh_sJ0, y_eo, y_eb, hI, y_Mo_signAt d J ht (show p < 1000 by omega), y_eI]
        rw [if_pos h]
        simp (maxSteps := 1000000) (disch := omega) only [sh_is0, sh_gI0, sh_wI0, sh_wZ0, sh_gR0, sh_gR1, sh_gR2, sh_lI0, sh_lI1, sh_lI2, sh_sI0, sh_sI1, sh_sI2, sh_len0, sh_len1, sh_len2, sh_lZ0, sh_sZ0, sh_gJ0, sh_wJ0, sh_lR0, sh_lJ0, sh_sJ0, y_eo, y_eb, y_1]
        exact k1
  · refine Or.inl ⟨p, hp, fun d I J c i k hc hi hk hk4 hw ht hI => ⟨I, ?_, y_w1_r hI⟩, fun d I J ht hI hf => ⟨I, ?_, y_w1_r hI⟩⟩
    · refine b_Te_takeClause_l27 _ _ _ _ _ _ _ ?_
      rw [y_st_is hi, y_eb, y_sLen _ hi, y_eI, if_neg (by rw [y_leI, nI_toInt (by have := (y_st_all i hi).1; omega), nI_toInt (by omega)]; omega), if_neg (by rw [y_leI, nI_toInt (by omega)]; simp only [y_lit]; omega)]
      simp (maxSteps := 1000000) (disch := omega) only [sh_is0, sh_gI0, sh_wI0, sh_wZ0, sh_gR0, sh_gR1, sh_gR2, sh_lI0, sh_lI1, sh_lI2, sh_sI0, sh_sI1, sh_sI2, sh_len0, sh_len1, sh_len2, sh_lZ0, sh_sZ0, sh_gJ0, sh_wJ0, sh_lR0, sh_lJ0, sh_sJ0, y_eo, y_eb, hI, y_Te_sign (d + 4) J ht (show p < 1000 by omega), y_eI]
      rw [if_neg h]
    · refine b_Mo_numberRead _ _ _ _ _ ?_
      simp (maxSteps := 1000000) (disch := omega) only [sh_is0, sh_gI0, sh_wI0, sh_wZ0, sh_gR0, sh_gR1, sh_gR2, sh_lI0, sh_lI1, sh_lI2, sh_sI0, sh_sI1, sh_sI2, sh_len0, sh_len1, sh_len2, sh_lZ0, sh_sZ0, sh_gJ0, sh_wJ0, sh_lR0, sh_lJ0, sh_sJ0, y_eo, y_eb, hf]
      rw [if_pos (by decide)]
      simp (maxSteps := 1000000) (disch := omega) only [sh_is0, sh_gI0, sh_wI0, sh_wZ0, sh_gR0, sh_gR1, sh_gR2, sh_lI0, sh_lI1, sh_lI2, sh_sI0, sh_sI1, sh_sI2, sh_len0, sh_len1, sh_len2, sh_lZ0, sh_sZ0, sh_gJ0, sh_wJ0, sh_lR0, sh_lJ0, sh_sJ0, y_eo, y_eb, hI, y_Mo_signAt d J ht (show p < 1000 by omega), y_eI]
      rw [if_neg h]
